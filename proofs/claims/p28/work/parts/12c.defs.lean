/-! what the calls of the face answer -/
def idlV (v mm : Nat) (t : Nat → Int) (o : Nat → Nat) (nn k : Nat) : Int := if nn = 0 then 0 else (row v mm t o nn).2 k - (row v mm t o 1).1 k - ldC t k nn
def crtV (mm : Nat) (t : Nat → Int) (o : Nat → Nat) (nn q k : Nat) : Int := if (row 0 mm t o (q + 1)).2 k + tlr t o nn mm (nn - q) k - t (5 * o q + k) = mk 0 mm t o nn then 1 else 0
def insO (t : Nat → Int) (mm nn : Nat) (o q : Nat → Nat) : Nat → Nat := ini t mm o (srt (bqs t mm) q nn) nn
def impO (t : Nat → Int) (mm nn : Nat) (o : Nat → Nat) : Nat → Nat := if (imS t mm o nn nn).1 < mk 0 mm t o nn then shf o (imS t mm o nn nn).2.1 (imS t mm o nn nn).2.2 else o
theorem crt_t {a b : Int} (h : a = b) : iI 1 = iI (if a = b then 1 else 0) := by rw [if_pos h]
theorem crt_f {a b : Int} (h : a ≠ b) : iI 0 = iI (if a = b then 1 else 0) := by rw [if_neg h]
