/** Promises 14 to 20: makespan, begin, totalTime, head, tail, isCritical, idle. */
final class SchedulesTest {
    private static final Class<IndexOutOfBoundsException> INDEX = IndexOutOfBoundsException.class;
    private static final Class<IllegalArgumentException> ARGUMENT = IllegalArgumentException.class;
    private static final int[] WRONG_VARIANTS = {-1, 3, 4, Integer.MIN_VALUE, Integer.MAX_VALUE};
    private static final int[] WRONG_THIRDS = {-1, 3, 4, 5, 7, Integer.MIN_VALUE, Integer.MAX_VALUE};

    private static final Check CHECK = new Check("SchedulesTest");

    public static void main(String[] args) {
        threeVariants();
        variantsFallApart();
        timesOfZeroWait();
        theOrderCounts();
        headsAndTails();
        criticalOperations();
        idleTimes();
        oneMachine();
        fullSize();
        withoutJobs();
        wrongArguments();
        CHECK.end();
    }

    private static Flowforge three() {
        return Shops.of(3, Shops.row(3, 2, 4), Shops.row(1, 5, 2), Shops.row(4, 1, 3));
    }

    /** A long time wanders from the last machine to the first one, so that jobs wait behind it. */
    private static Flowforge queued() {
        return Shops.of(3, Shops.row(1, 1, 9), Shops.row(1, 1, 1), Shops.row(1, 9, 1), Shops.row(9, 1, 1));
    }

    private static void threeVariants() {
        Flowforge shop = three();
        CHECK.same("plain begins", "0 3 5 | 3 5 10 | 4 10 12", Shops.begins(shop, 0));
        CHECK.same("blocking begins", "0 3 5 | 3 5 10 | 5 10 12", Shops.begins(shop, 1));
        CHECK.same("no-wait begins", "0 3 5 | 4 5 10 | 7 11 12", Shops.begins(shop, 2));
        for (int variant = 0; variant < 3; variant++) {
            CHECK.same("makespan(" + variant + ")", 15, shop.makespan(variant));
        }
        CHECK.same("totalTime()", 9 + 12 + 15, shop.totalTime());
    }

    private static void variantsFallApart() {
        Flowforge shop = queued();
        CHECK.same("plain begins", "0 1 2 | 1 2 11 | 2 3 12 | 3 12 13", Shops.begins(shop, 0));
        CHECK.same("blocking begins", "0 1 2 | 1 2 11 | 2 11 20 | 11 20 21", Shops.begins(shop, 1));
        CHECK.same("no-wait begins", "0 1 2 | 9 10 11 | 10 11 20 | 11 20 21", Shops.begins(shop, 2));
        CHECK.same("makespan(0)", 14, shop.makespan(0));
        CHECK.same("makespan(1)", 22, shop.makespan(1));
        CHECK.same("makespan(2)", 22, shop.makespan(2));
        CHECK.same("totalTime()", 11 + 12 + 13 + 14, shop.totalTime());
    }

    /** A job of the time 0 on machines behind a busy one waits there too. */
    private static void timesOfZeroWait() {
        Flowforge shop = Shops.of(3, Shops.row(0, 0, 5), Shops.row(0, 0, 0), Shops.row(2, 0, 0));
        CHECK.same("plain begins", "0 0 0 | 0 0 5 | 0 2 5", Shops.begins(shop, 0));
        CHECK.same("blocking begins", "0 0 0 | 0 0 5 | 0 5 5", Shops.begins(shop, 1));
        CHECK.same("no-wait begins", "0 0 0 | 5 5 5 | 5 7 7", Shops.begins(shop, 2));
        CHECK.same("makespan(0)", 5, shop.makespan(0));
        CHECK.same("makespan(1)", 5, shop.makespan(1));
        CHECK.same("makespan(2)", 7, shop.makespan(2));

        Flowforge blocked = Shops.of(2, Shops.row(0, 9), Shops.row(0, 0), Shops.row(0, 0));
        CHECK.same("blocking begins behind a time of 9", "0 0 | 0 9 | 9 9", Shops.begins(blocked, 1));
    }

    private static void theOrderCounts() {
        Flowforge shop = three();
        Shops.arrange(shop, 2, 1, 0);
        CHECK.same("plain begins", "0 4 5 | 4 5 10 | 5 10 12", Shops.begins(shop, 0));
        CHECK.same("makespan(0)", 16, shop.makespan(0));
        CHECK.same("totalTime()", 8 + 12 + 16, shop.totalTime());
        CHECK.same("head(0, 2)", 8, shop.head(0, 2));
        CHECK.same("tail(2, 0)", 9, shop.tail(2, 0));
        shop.setTime(0, 2, 99);
        CHECK.same("makespan(0) of another time", 111, shop.makespan(0));
        shop.setMachines(2);
        CHECK.same("makespan(0) of two machines", 12, shop.makespan(0));
    }

    private static void headsAndTails() {
        Flowforge shop = three();
        int[][] heads = {{3, 5, 9}, {4, 10, 12}, {8, 11, 15}};
        int[][] tails = {{15, 12, 9}, {11, 10, 5}, {8, 4, 3}};
        for (int place = 0; place < 3; place++) {
            for (int machine = 0; machine < 3; machine++) {
                String where = "(" + place + ", " + machine + ")";
                CHECK.same("head" + where, heads[place][machine], shop.head(place, machine));
                CHECK.same("tail" + where, tails[place][machine], shop.tail(place, machine));
            }
        }
    }

    private static void criticalOperations() {
        Flowforge shop = three();
        boolean[][] critical = {{true, true, false}, {false, true, true}, {false, false, true}};
        for (int place = 0; place < 3; place++) {
            for (int machine = 0; machine < 3; machine++) {
                CHECK.same("isCritical(" + place + ", " + machine + ")",
                    critical[place][machine], shop.isCritical(place, machine));
            }
        }
        // The places count, not the jobs: place 0 holds the job 2 here.
        Flowforge turned = Shops.of(2, Shops.row(1, 9), Shops.row(9, 1), Shops.row(9, 9));
        Shops.arrange(turned, 2, 0, 1);
        CHECK.same("isCritical(0, 0)", true, turned.isCritical(0, 0));
        CHECK.same("isCritical(0, 1)", true, turned.isCritical(0, 1));
        CHECK.same("isCritical(1, 0)", false, turned.isCritical(1, 0));
        CHECK.same("isCritical(1, 1)", true, turned.isCritical(1, 1));
        CHECK.same("isCritical(2, 0)", false, turned.isCritical(2, 0));
        CHECK.same("isCritical(2, 1)", true, turned.isCritical(2, 1));
        Flowforge zero = Shops.of(2, Shops.row(0, 0), Shops.row(0, 0));
        CHECK.same("isCritical(1, 0) of times 0", true, zero.isCritical(1, 0));
    }

    private static void idleTimes() {
        Flowforge shop = three();
        int[][] idle = {{0, 0, 1}, {1, 0, 1}, {3, 1, 1}};
        for (int variant = 0; variant < 3; variant++) {
            for (int machine = 0; machine < 3; machine++) {
                CHECK.same("idle(" + variant + ", " + machine + ")",
                    idle[variant][machine], shop.idle(variant, machine));
            }
        }
        // The last job stays on the machine 0 here until it begins on the machine 1, and that counts no more.
        Flowforge staying = Shops.of(2, Shops.row(1, 9), Shops.row(1, 1));
        CHECK.same("idle(1, 0) if the last job stays", 0, staying.idle(1, 0));
        CHECK.same("idle(2, 0) if the last job may not stay", 8, staying.idle(2, 0));
        Flowforge between = Shops.of(2, Shops.row(1, 9), Shops.row(1, 1), Shops.row(1, 1));
        CHECK.same("idle(1, 0) if a job in between stays", 8, between.idle(1, 0));
    }

    private static void oneMachine() {
        Flowforge shop = Shops.of(1, Shops.row(4), Shops.row(0), Shops.row(99));
        for (int variant = 0; variant < 3; variant++) {
            CHECK.same("begins of variant " + variant, "0 | 4 | 4", Shops.begins(shop, variant));
            CHECK.same("makespan(" + variant + ")", 103, shop.makespan(variant));
            CHECK.same("idle(" + variant + ", 0)", 0, shop.idle(variant, 0));
        }
        CHECK.same("totalTime()", 4 + 4 + 103, shop.totalTime());
        CHECK.same("head(1, 0)", 4, shop.head(1, 0));
        CHECK.same("tail(1, 0)", 99, shop.tail(1, 0));
        CHECK.same("isCritical(1, 0)", true, shop.isCritical(1, 0));
    }

    private static void fullSize() {
        Flowforge shop = new Flowforge();
        shop.setMachines(5);
        for (int job = 0; job < 7; job++) {
            shop.addJob();
            for (int machine = 0; machine < 5; machine++) {
                shop.setTime(job, machine, 99);
            }
        }
        for (int variant = 0; variant < 3; variant++) {
            CHECK.same("makespan(" + variant + ")", 11 * 99, shop.makespan(variant));
            CHECK.same("begin(" + variant + ", 6, 4)", 10 * 99, shop.begin(variant, 6, 4));
            CHECK.same("idle(" + variant + ", 4)", 0, shop.idle(variant, 4));
        }
        CHECK.same("totalTime()", (5 + 6 + 7 + 8 + 9 + 10 + 11) * 99, shop.totalTime());
        CHECK.same("tail(0, 0)", 11 * 99, shop.tail(0, 0));
        CHECK.same("isCritical(3, 2)", true, shop.isCritical(3, 2));
    }

    private static void withoutJobs() {
        Flowforge shop = new Flowforge();
        CHECK.same("totalTime() without jobs", 0, shop.totalTime());
        for (int variant = 0; variant < 3; variant++) {
            int it = variant;
            CHECK.same("makespan(" + variant + ") without jobs", 0, shop.makespan(variant));
            CHECK.same("idle(" + variant + ", 1) without jobs", 0, shop.idle(variant, 1));
            CHECK.fails("idle(" + variant + ", 2) without jobs", INDEX, () -> shop.idle(it, 2));
            CHECK.fails("begin(" + variant + ", 0, 0) without jobs", INDEX, () -> shop.begin(it, 0, 0));
        }
        CHECK.fails("head(0, 0) without jobs", INDEX, () -> shop.head(0, 0));
        CHECK.fails("tail(0, 0) without jobs", INDEX, () -> shop.tail(0, 0));
        CHECK.fails("isCritical(0, 0) without jobs", INDEX, () -> shop.isCritical(0, 0));
    }

    private static void wrongArguments() {
        Flowforge shop = three();
        String before = Shops.state(shop);
        for (int variant : WRONG_VARIANTS) {
            CHECK.fails("makespan(" + variant + ")", ARGUMENT, () -> shop.makespan(variant));
            CHECK.fails("begin(" + variant + ", 0, 0)", ARGUMENT, () -> shop.begin(variant, 0, 0));
            CHECK.fails("begin(" + variant + ", 3, -1)", ARGUMENT, () -> shop.begin(variant, 3, -1));
            CHECK.fails("idle(" + variant + ", 0)", ARGUMENT, () -> shop.idle(variant, 0));
            CHECK.fails("idle(" + variant + ", 3)", ARGUMENT, () -> shop.idle(variant, 3));
        }
        for (int wrong : WRONG_THIRDS) {
            CHECK.fails("begin(0, " + wrong + ", 0)", INDEX, () -> shop.begin(0, wrong, 0));
            CHECK.fails("begin(1, 0, " + wrong + ")", INDEX, () -> shop.begin(1, 0, wrong));
            CHECK.fails("head(" + wrong + ", 0)", INDEX, () -> shop.head(wrong, 0));
            CHECK.fails("head(0, " + wrong + ")", INDEX, () -> shop.head(0, wrong));
            CHECK.fails("tail(" + wrong + ", 0)", INDEX, () -> shop.tail(wrong, 0));
            CHECK.fails("tail(0, " + wrong + ")", INDEX, () -> shop.tail(0, wrong));
            CHECK.fails("isCritical(" + wrong + ", 0)", INDEX, () -> shop.isCritical(wrong, 0));
            CHECK.fails("isCritical(0, " + wrong + ")", INDEX, () -> shop.isCritical(0, wrong));
            CHECK.fails("idle(2, " + wrong + ")", INDEX, () -> shop.idle(2, wrong));
        }
        CHECK.same("state behind all that threw", before, Shops.state(shop));
    }
}
