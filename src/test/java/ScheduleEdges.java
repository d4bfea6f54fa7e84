/** Promises 14 to 20, sentence by sentence. */
final class ScheduleEdges {
    private static final String VARIANTS = "`variant`: 0, 1 or 2";
    private static final String PLACE = "`place`: a place of the order";
    private static final String MACHINE = "`machine`: its number";
    private static final String WRONG_VARIANT = "Throws `IllegalArgumentException` if variant is out of range";
    private static final String WRONG_PLACE_OR_MACHINE =
        "Throws `IndexOutOfBoundsException` if there is no such place or no such machine";

    private interface CallOfTwo {
        Object on(Flowforge shop, int place, int machine);
    }

    private final Edges edges;

    ScheduleEdges(Edges edges) {
        this.edges = edges;
    }

    void run() {
        edges.under("Promise 14: makespan");
        edges.test("Returns the makespan of the order.", this::makespanOfTheOrder);
        edges.test(VARIANTS, this::makespanOfEachVariant);
        edges.test("Returns the makespan.", this::leastAndGreatestMakespan);
        edges.test(WRONG_VARIANT, this::makespanOfWrongVariantIsRefused);

        edges.under("Promise 15: begin");
        edges.test("Returns when a job begins on a machine.", this::eachBegin);
        edges.test(VARIANTS, this::beginOfEachVariant);
        edges.test("`place`: the place of the job in the order", this::beginAtFirstAndLastPlace);
        edges.test(MACHINE, this::beginOnFirstAndLastMachine);
        edges.test("Returns the moment at which it begins.", this::leastAndGreatestBegin);
        edges.test(WRONG_VARIANT, this::beginOfWrongVariantIsRefused);
        edges.test(WRONG_PLACE_OR_MACHINE, this::beginBesideTheOrderIsRefused);

        edges.under("Promise 16: totalTime");
        edges.test("Returns the sum over all jobs of the moments at which they end on the last machine, in the plain "
            + "variant.", this::totalTimes);

        edges.under("Promise 17: head");
        edges.test("Returns the head of a place and a machine.", this::eachHead);
        edges.test(PLACE, this::headAtFirstAndLastPlace);
        edges.test(MACHINE, this::headOnFirstAndLastMachine);
        edges.test("Returns the head.", this::leastAndGreatestHead);
        edges.test(WRONG_PLACE_OR_MACHINE, () -> refusedBesideTheOrder("head", Flowforge::head));

        edges.under("Promise 18: tail");
        edges.test("Returns the tail of a place and a machine.", this::eachTail);
        edges.test(PLACE, this::tailAtFirstAndLastPlace);
        edges.test(MACHINE, this::tailOnFirstAndLastMachine);
        edges.test("Returns the tail.", this::leastAndGreatestTail);
        edges.test(WRONG_PLACE_OR_MACHINE, () -> refusedBesideTheOrder("tail", Flowforge::tail));

        edges.under("Promise 19: isCritical");
        edges.test("Returns whether an operation is critical.", this::eachOperation);
        edges.test(PLACE, this::criticalAtFirstAndLastPlace);
        edges.test(MACHINE, this::criticalOnFirstAndLastMachine);
        edges.test("Returns whether it is critical.", this::allCriticalAndJustNotCritical);
        edges.test(WRONG_PLACE_OR_MACHINE, () -> refusedBesideTheOrder("isCritical", Flowforge::isCritical));

        edges.under("Promise 20: idle");
        edges.test("Returns how long a machine idles in a variant between the moment at which the first job begins on it "
            + "and the moment at which the last job ends on it: that time minus the times of all jobs on it.",
            this::eachIdleTime);
        edges.test("(Staying on it without working counts as idling.)", this::stayingIsIdling);
        edges.test(VARIANTS, this::idleOfEachVariant);
        edges.test(MACHINE, this::idleOnFirstAndLastMachine);
        edges.test("Returns the idle time; 0 if there are no jobs.", this::idleWithoutJobs);
        edges.test(WRONG_VARIANT, this::idleOfWrongVariantIsRefused);
        edges.test("Throws `IndexOutOfBoundsException` if there is no such machine", this::idleOfWrongMachineIsRefused);
    }

    /** 7 jobs on 5 machines, all times 99. */
    static Flowforge full() {
        Flowforge shop = TimeEdges.seven(5);
        for (int job = 0; job < 7; job++) {
            for (int machine = 0; machine < 5; machine++) {
                shop.setTime(job, machine, 99);
            }
        }
        return shop;
    }

    /** Its makespan is another one in each variant. */
    static Flowforge waiting() {
        return Shops.of(3, Shops.row(3, 4, 2), Shops.row(3, 1, 3), Shops.row(2, 4, 2));
    }

    private static Flowforge three() {
        Flowforge shop = Sample.THREE_JOBS.make();
        Shops.arrange(shop, 0, 1, 2);
        return shop;
    }

    private void refusedBesideTheOrder(String name, CallOfTwo call) {
        edges.refusedOutside(name + "(%, 0)", Edges.INDEX, Room.PLACE, Sample.ALL, (shop, place) -> call.on(shop, place, 0));
        edges.refusedOutside(name + "(0, %)", Edges.INDEX, Room.MACHINE, Sample.ALL,
            (shop, machine) -> call.on(shop, 0, machine));
        edges.refusedOutside(name + "(%, last)", Edges.INDEX, Room.PLACE, Sample.ALL,
            (shop, place) -> call.on(shop, place, shop.machines() - 1));
        edges.refusedOutside(name + "(last, %)", Edges.INDEX, Room.MACHINE, Sample.ALL,
            (shop, machine) -> call.on(shop, shop.jobs() - 1, machine));
        edges.refusedOutside(name + "(%, %)", Edges.INDEX, Room.PLACE, Sample.ALL, (shop, both) -> call.on(shop, both, both));
    }

    // ---- makespan

    private void makespanOfTheOrder() {
        Flowforge shop = three();
        edges.same("makespan(0) of the order 012", 15, shop.makespan(0));
        shop.move(2, 0);
        edges.same("makespan(0) of the order 201", 16, shop.makespan(0));
        for (int variant = 0; variant < 3; variant++) {
            edges.same("makespan(" + variant + ") without jobs", 0, new Flowforge().makespan(variant));
            edges.same("makespan(" + variant + ") of one job", 99, Sample.ONE_JOB.make().makespan(variant));
            edges.same("makespan(" + variant + ") on one machine", 103, Sample.ONE_MACHINE.make().makespan(variant));
        }
    }

    private void makespanOfEachVariant() {
        edges.same("makespan(0)", 14, waiting().makespan(0));
        edges.same("makespan(1)", 15, waiting().makespan(1));
        edges.same("makespan(2)", 16, waiting().makespan(2));
    }

    private void leastAndGreatestMakespan() {
        for (int variant = 0; variant < 3; variant++) {
            edges.same("makespan(" + variant + ") of times 0", 0, TimeEdges.seven(5).makespan(variant));
            edges.same("makespan(" + variant + ") of times 99", 11 * 99, full().makespan(variant));
        }
    }

    private void makespanOfWrongVariantIsRefused() {
        edges.refusedOutside("makespan(%)", Edges.ARGUMENT, Room.VARIANT, Sample.ALL, Flowforge::makespan);
    }

    // ---- begin

    private void eachBegin() {
        edges.same("begins of variant 0", "0 3 7 | 3 7 9 | 6 8 12", Shops.begins(waiting(), 0));
        edges.same("begins of variant 1", "0 3 7 | 3 7 9 | 7 9 13", Shops.begins(waiting(), 1));
        edges.same("begins of variant 2", "0 3 7 | 5 8 9 | 8 10 14", Shops.begins(waiting(), 2));
    }

    private void beginOfEachVariant() {
        edges.same("begin(0, 2, 0)", 6, waiting().begin(0, 2, 0));
        edges.same("begin(1, 2, 0)", 7, waiting().begin(1, 2, 0));
        edges.same("begin(2, 2, 0)", 8, waiting().begin(2, 2, 0));
    }

    private void beginAtFirstAndLastPlace() {
        Flowforge shop = Sample.THREE_JOBS.make();
        edges.same("begin(0, 0, 2), of the job 2", 5, shop.begin(0, 0, 2));
        edges.same("begin(0, 2, 0), of the job 0", 5, shop.begin(0, 2, 0));
        for (int variant = 0; variant < 3; variant++) {
            edges.same("begin(" + variant + ", 0, 1) of one job", 99, Sample.ONE_JOB.make().begin(variant, 0, 1));
            edges.same("begin(" + variant + ", 6, 0) of 7 jobs", 6 * 99, full().begin(variant, 6, 0));
        }
    }

    private void beginOnFirstAndLastMachine() {
        for (int variant = 0; variant < 3; variant++) {
            edges.same("begin(" + variant + ", 3, 0) of 5 machines", 3 * 99, full().begin(variant, 3, 0));
            edges.same("begin(" + variant + ", 3, 4) of 5 machines", 7 * 99, full().begin(variant, 3, 4));
            edges.same("begins of one machine", "0 | 0 | 99", Shops.begins(Sample.ONE_MACHINE.make(), variant));
        }
    }

    private void leastAndGreatestBegin() {
        for (int variant = 0; variant < 3; variant++) {
            edges.same("begin(" + variant + ", 6, 4) of times 0", 0, TimeEdges.seven(5).begin(variant, 6, 4));
            edges.same("begin(" + variant + ", 6, 4) of times 99", 10 * 99, full().begin(variant, 6, 4));
            edges.same("begin(" + variant + ", 0, 0) of times 99", 0, full().begin(variant, 0, 0));
        }
    }

    private void beginOfWrongVariantIsRefused() {
        edges.refusedOutside("begin(%, 0, 0)", Edges.ARGUMENT, Room.VARIANT, Sample.ALL,
            (shop, variant) -> shop.begin(variant, 0, 0));
        edges.refusedOutside("begin(%, last, last)", Edges.ARGUMENT, Room.VARIANT, Sample.ALL,
            (shop, variant) -> shop.begin(variant, shop.jobs() - 1, shop.machines() - 1));
        // The wrong variant is documented first, so it counts with a wrong place, a wrong machine and both.
        edges.refusedOutside("begin(%, 7, 0)", Edges.ARGUMENT, Room.VARIANT, Sample.ALL,
            (shop, variant) -> shop.begin(variant, 7, 0));
        edges.refusedOutside("begin(%, 0, 5)", Edges.ARGUMENT, Room.VARIANT, Sample.ALL,
            (shop, variant) -> shop.begin(variant, 0, 5));
        edges.refusedOutside("begin(%, -1, -1)", Edges.ARGUMENT, Room.VARIANT, Sample.ALL,
            (shop, variant) -> shop.begin(variant, -1, -1));
    }

    private void beginBesideTheOrderIsRefused() {
        for (int variant = 0; variant < 3; variant++) {
            int it = variant;
            refusedBesideTheOrder("begin of variant " + variant + " ", (shop, place, machine) -> shop.begin(it, place, machine));
        }
    }

    // ---- totalTime

    private void totalTimes() {
        edges.same("totalTime() without jobs", 0, new Flowforge().totalTime());
        edges.same("totalTime() of one job", 99, Sample.ONE_JOB.make().totalTime());
        edges.same("totalTime() on one machine", 0 + 99 + 103, Sample.ONE_MACHINE.make().totalTime());
        edges.same("totalTime() of times 0", 0, TimeEdges.seven(5).totalTime());
        edges.same("totalTime() of times 99", (5 + 6 + 7 + 8 + 9 + 10 + 11) * 99, full().totalTime());
        edges.same("totalTime() where the variants differ", 9 + 12 + 14, waiting().totalTime());
        Flowforge shop = waiting();
        shop.makespan(2);
        edges.same("totalTime() behind makespan(2)", 9 + 12 + 14, shop.totalTime());
        shop.setMachines(1);
        edges.same("totalTime() of fewer machines", 3 + 6 + 8, shop.totalTime());
    }

    // ---- head and tail

    private void eachHead() {
        int[][] heads = {{3, 5, 9}, {4, 10, 12}, {8, 11, 15}};
        for (int place = 0; place < 3; place++) {
            for (int machine = 0; machine < 3; machine++) {
                edges.same("head(" + place + ", " + machine + ")", heads[place][machine], three().head(place, machine));
            }
        }
    }

    private void headAtFirstAndLastPlace() {
        edges.same("head(0, 0), of the job 2", 4, Sample.THREE_JOBS.make().head(0, 0));
        edges.same("head(2, 0), of the job 0", 8, Sample.THREE_JOBS.make().head(2, 0));
        edges.same("head(0, 1) of one job", 99, Sample.ONE_JOB.make().head(0, 1));
        edges.same("head(6, 0) of 7 jobs", 7 * 99, full().head(6, 0));
    }

    private void headOnFirstAndLastMachine() {
        edges.same("head(1, 0)", 4, three().head(1, 0));
        edges.same("head(1, 2), the last machine", 12, three().head(1, 2));
        edges.same("head(2, 0) on one machine", 103, Sample.ONE_MACHINE.make().head(2, 0));
        edges.same("head(0, 4) on 5 machines", 5 * 99, full().head(0, 4));
    }

    private void leastAndGreatestHead() {
        edges.same("head(6, 4) of times 0", 0, TimeEdges.seven(5).head(6, 4));
        edges.same("head(6, 4) of times 99", 11 * 99, full().head(6, 4));
        edges.same("head(0, 0) of times 99", 99, full().head(0, 0));
    }

    private void eachTail() {
        int[][] tails = {{15, 12, 9}, {11, 10, 5}, {8, 4, 3}};
        for (int place = 0; place < 3; place++) {
            for (int machine = 0; machine < 3; machine++) {
                edges.same("tail(" + place + ", " + machine + ")", tails[place][machine], three().tail(place, machine));
            }
        }
    }

    private void tailAtFirstAndLastPlace() {
        edges.same("tail(0, 2), of the job 2", 9, Sample.THREE_JOBS.make().tail(0, 2));
        edges.same("tail(2, 2), of the job 0", 4, Sample.THREE_JOBS.make().tail(2, 2));
        edges.same("tail(0, 0) of one job", 99, Sample.ONE_JOB.make().tail(0, 0));
        edges.same("tail(6, 0) of 7 jobs", 5 * 99, full().tail(6, 0));
    }

    private void tailOnFirstAndLastMachine() {
        edges.same("tail(1, 0)", 11, three().tail(1, 0));
        edges.same("tail(1, 2), the last machine", 5, three().tail(1, 2));
        edges.same("tail(0, 0) on one machine", 103, Sample.ONE_MACHINE.make().tail(0, 0));
        edges.same("tail(0, 4) on 5 machines", 7 * 99, full().tail(0, 4));
    }

    private void leastAndGreatestTail() {
        edges.same("tail(0, 0) of times 0", 0, TimeEdges.seven(5).tail(0, 0));
        edges.same("tail(0, 0) of times 99", 11 * 99, full().tail(0, 0));
        edges.same("tail(6, 4) of times 99", 99, full().tail(6, 4));
    }

    // ---- isCritical

    private void eachOperation() {
        boolean[][] critical = {{true, true, false}, {false, true, true}, {false, false, true}};
        for (int place = 0; place < 3; place++) {
            for (int machine = 0; machine < 3; machine++) {
                edges.same("isCritical(" + place + ", " + machine + ")", critical[place][machine],
                    three().isCritical(place, machine));
            }
        }
    }

    private void criticalAtFirstAndLastPlace() {
        Flowforge shop = Shops.of(2, Shops.row(1, 9), Shops.row(9, 1), Shops.row(9, 9));
        Shops.arrange(shop, 2, 0, 1);
        edges.same("isCritical(0, 1), of the job 2", true, shop.isCritical(0, 1));
        edges.same("isCritical(2, 0), of the job 1", false, shop.isCritical(2, 0));
        edges.same("isCritical(0, 1) of one job", true, Sample.ONE_JOB.make().isCritical(0, 1));
        edges.same("isCritical(6, 0) of 7 jobs", true, full().isCritical(6, 0));
    }

    private void criticalOnFirstAndLastMachine() {
        edges.same("isCritical(0, 0)", true, three().isCritical(0, 0));
        edges.same("isCritical(0, 2), the last machine", false, three().isCritical(0, 2));
        edges.same("isCritical(1, 0) on one machine", true, Sample.ONE_MACHINE.make().isCritical(1, 0));
        edges.same("isCritical(0, 4) on 5 machines", true, full().isCritical(0, 4));
    }

    private void allCriticalAndJustNotCritical() {
        edges.same("isCritical(3, 2) of times 0", true, TimeEdges.seven(5).isCritical(3, 2));
        edges.same("isCritical(3, 2) of times 99", true, full().isCritical(3, 2));
        Flowforge shop = full();
        shop.setTime(3, 2, 98);
        edges.same("isCritical(3, 2) of one time less", false, shop.isCritical(3, 2));
        edges.same("isCritical(3, 3) beside it", true, shop.isCritical(3, 3));
        // The makespans of the other variants are greater than the plain one.
        edges.same("isCritical(1, 1) where the variants differ", true, waiting().isCritical(1, 1));
    }

    // ---- idle

    private void eachIdleTime() {
        int[][] idle = {{0, 0, 1}, {1, 0, 1}, {3, 1, 1}};
        for (int variant = 0; variant < 3; variant++) {
            for (int machine = 0; machine < 3; machine++) {
                edges.same("idle(" + variant + ", " + machine + ") of the order 012", idle[variant][machine],
                    three().idle(variant, machine));
            }
            edges.same("idle(" + variant + ", 1) of one job", 0, Sample.ONE_JOB.make().idle(variant, 1));
            edges.same("idle(" + variant + ", 0) on one machine", 0, Sample.ONE_MACHINE.make().idle(variant, 0));
            edges.same("idle(" + variant + ", 4) of times 99", 0, full().idle(variant, 4));
            edges.same("idle(" + variant + ", 4) of times 0", 0, TimeEdges.seven(5).idle(variant, 4));
        }
        // A time of 0 of the first job begins its machine's span all the same, and one of the last job ends it.
        Flowforge zero = Shops.of(2, Shops.row(1, 0), Shops.row(9, 5), Shops.row(9, 0));
        edges.same("idle(0, 1) between times of 0", 19 - 1 - 5, zero.idle(0, 1));
    }

    private void stayingIsIdling() {
        Flowforge between = Shops.of(2, Shops.row(1, 9), Shops.row(1, 1), Shops.row(1, 1));
        edges.same("idle(1, 0) if a job before the last one stays", 8, between.idle(1, 0));
        edges.same("idle(0, 0) if it need not stay", 0, between.idle(0, 0));
        Flowforge last = Shops.of(2, Shops.row(1, 9), Shops.row(1, 1));
        edges.same("idle(1, 0) if the last job stays when it has ended", 0, last.idle(1, 0));
    }

    private void idleOfEachVariant() {
        for (int machine = 0; machine < 3; machine++) {
            edges.same("idle(0, " + machine + ")", 0, waiting().idle(0, machine));
            edges.same("idle(1, " + machine + ")", 1, waiting().idle(1, machine));
            edges.same("idle(2, " + machine + ")", 2, waiting().idle(2, machine));
        }
    }

    private void idleOnFirstAndLastMachine() {
        Flowforge shop = Sample.SEVEN_JOBS_FIVE_MACHINES.make();
        Model model = Model.of(shop);
        for (int variant = 0; variant < 3; variant++) {
            edges.same("idle(" + variant + ", 0) of 5 machines", model.idle(variant, 0), shop.idle(variant, 0));
            edges.same("idle(" + variant + ", 4) of 5 machines", model.idle(variant, 4), shop.idle(variant, 4));
        }
    }

    private void idleWithoutJobs() {
        for (int machines = 1; machines <= 5; machines++) {
            Flowforge shop = new Flowforge();
            shop.setMachines(machines);
            for (int variant = 0; variant < 3; variant++) {
                edges.same("idle(" + variant + ", 0) without jobs", 0, shop.idle(variant, 0));
                edges.same("idle(" + variant + ", last) without jobs", 0, shop.idle(variant, machines - 1));
            }
        }
    }

    private void idleOfWrongVariantIsRefused() {
        edges.refusedOutside("idle(%, 0)", Edges.ARGUMENT, Room.VARIANT, Sample.ALL, (shop, variant) -> shop.idle(variant, 0));
        // The wrong variant is documented first.
        edges.refusedOutside("idle(%, -1)", Edges.ARGUMENT, Room.VARIANT, Sample.ALL, (shop, variant) -> shop.idle(variant, -1));
        edges.refusedOutside("idle(%, 5)", Edges.ARGUMENT, Room.VARIANT, Sample.ALL, (shop, variant) -> shop.idle(variant, 5));
    }

    private void idleOfWrongMachineIsRefused() {
        for (int variant = 0; variant < 3; variant++) {
            int it = variant;
            edges.refusedOutside("idle(" + variant + ", %)", Edges.INDEX, Room.MACHINE, Sample.ALL,
                (shop, machine) -> shop.idle(it, machine));
        }
    }
}
