/** Promises 21 to 26: machineBound, pairBound, best, bestAt, bestOrders, gap. */
final class BoundsTest {
    private static final Class<IndexOutOfBoundsException> INDEX = IndexOutOfBoundsException.class;
    private static final Class<IllegalArgumentException> ARGUMENT = IllegalArgumentException.class;
    private static final int[] WRONG_VARIANTS = {-1, 3, 4, Integer.MIN_VALUE, Integer.MAX_VALUE};
    private static final int[] WRONG_THIRDS = {-1, 3, 4, 5, 7, Integer.MIN_VALUE, Integer.MAX_VALUE};

    private static final Check CHECK = new Check("BoundsTest");

    public static void main(String[] args) {
        machineBounds();
        pairBounds();
        bestOrders();
        bestOrderFollowsTheTimes();
        equalJobs();
        gaps();
        withoutJobs();
        oneJob();
        fullSize();
        wrongArguments();
        CHECK.end();
    }

    /** Plain makespans: 012, 021, 102 and 120 take 15, 201 and 210 take 16. */
    private static Flowforge three() {
        return Shops.of(3, Shops.row(3, 2, 4), Shops.row(1, 5, 2), Shops.row(4, 1, 3));
    }

    private static void machineBounds() {
        Flowforge shop = three();
        CHECK.same("machineBound(0)", 8 + 0 + 4, shop.machineBound(0));
        CHECK.same("machineBound(1)", 8 + 1 + 2, shop.machineBound(1));
        CHECK.same("machineBound(2)", 9 + 5 + 0, shop.machineBound(2));
        // The same job has both least sums.
        Flowforge both = Shops.of(3, Shops.row(1, 4, 2), Shops.row(9, 4, 9));
        CHECK.same("machineBound(1) with both sums of the job 0", 8 + 1 + 2, both.machineBound(1));
        Flowforge zero = Shops.of(3, Shops.row(5, 5, 5), Shops.row(0, 3, 0));
        CHECK.same("machineBound(1) with sums 0", 8, zero.machineBound(1));
    }

    private static void pairBounds() {
        Flowforge shop = three();
        CHECK.same("pairBound(0, 1)", 9 + 0 + 2, shop.pairBound(0, 1));
        CHECK.same("pairBound(1, 2)", 10 + 1 + 0, shop.pairBound(1, 2));
        CHECK.same("pairBound(0, 2)", 11 + 0 + 0, shop.pairBound(0, 2));
        // The machine between the two counts for nothing; those outside count with their least sums.
        Flowforge wide = Shops.of(5, Shops.row(7, 2, 50, 3, 9), Shops.row(8, 4, 60, 1, 6));
        CHECK.same("pairBound(1, 3)", 7 + 7 + 6, wide.pairBound(1, 3));
        Shops.arrange(wide, 1, 0);
        CHECK.same("pairBound(1, 3) of another order", 7 + 7 + 6, wide.pairBound(1, 3));
        CHECK.same("order behind it", "10", Shops.order(wide));
    }

    private static void bestOrders() {
        Flowforge shop = three();
        CHECK.same("best(0)", 15, shop.best(0));
        CHECK.same("bestOrders(0)", 4, shop.bestOrders(0));
        CHECK.same("best order of variant 0", "012", Shops.bestOrder(shop, 0));
        Shops.arrange(shop, 2, 1, 0);
        CHECK.same("best(0) of another order", 15, shop.best(0));
        CHECK.same("best order of another order", "012", Shops.bestOrder(shop, 0));
        CHECK.same("order behind it", "210", Shops.order(shop));

        // In every variant 01 takes 19 and 10 takes 11.
        Flowforge pair = Shops.of(2, Shops.row(9, 1), Shops.row(1, 9));
        for (int variant = 0; variant < 3; variant++) {
            CHECK.same("best(" + variant + ")", 11, pair.best(variant));
            CHECK.same("bestOrders(" + variant + ")", 1, pair.bestOrders(variant));
            CHECK.same("best order of variant " + variant, "10", Shops.bestOrder(pair, variant));
        }

        Flowforge queued = Shops.of(3, Shops.row(1, 1, 9), Shops.row(1, 1, 1), Shops.row(1, 9, 1), Shops.row(9, 1, 1));
        Model model = Model.of(queued);
        for (int variant = 0; variant < 3; variant++) {
            CHECK.same("best(" + variant + ")", model.best(variant).makespan, queued.best(variant));
            CHECK.same("bestOrders(" + variant + ")", model.best(variant).count, queued.bestOrders(variant));
            CHECK.same("best order of variant " + variant, model.best(variant).first, Shops.bestOrder(queued, variant));
        }
    }

    /** What was found before must not be told again once a time, a machine or a job is another. */
    private static void bestOrderFollowsTheTimes() {
        Flowforge shop = Shops.of(2, Shops.row(9, 1), Shops.row(1, 9));
        CHECK.same("best(0)", 11, shop.best(0));
        CHECK.same("best(2)", 11, shop.best(2));
        shop.setTime(0, 0, 1);
        shop.setTime(0, 1, 9);
        CHECK.same("best(0) of other times", 19, shop.best(0));
        CHECK.same("best(2) of other times", 19, shop.best(2));
        CHECK.same("bestOrders(0) of other times", 2, shop.bestOrders(0));
        CHECK.same("best order of other times", "01", Shops.bestOrder(shop, 0));
        shop.setMachines(1);
        CHECK.same("best(0) of one machine", 2, shop.best(0));
        shop.addJob();
        CHECK.same("bestOrders(0) of three jobs", 6, shop.bestOrders(0));
        CHECK.same("best order of three jobs", "012", Shops.bestOrder(shop, 0));
        shop.setTime(2, 0, 4);
        CHECK.same("best(1) of three jobs", 6, shop.best(1));
    }

    private static void equalJobs() {
        Flowforge shop = new Flowforge();
        for (int job = 0; job < 7; job++) {
            shop.addJob();
        }
        for (int variant = 0; variant < 3; variant++) {
            CHECK.same("best(" + variant + ") of times 0", 0, shop.best(variant));
            CHECK.same("bestOrders(" + variant + ") of times 0", 5040, shop.bestOrders(variant));
            CHECK.same("best order of times 0", "0123456", Shops.bestOrder(shop, variant));
        }
        shop.setTime(6, 0, 5);
        shop.setTime(5, 1, 5);
        CHECK.same("best(0) of two times", Model.of(shop).best(0).makespan, shop.best(0));
        CHECK.same("bestOrders(0) of two times", Model.of(shop).best(0).count, shop.bestOrders(0));
        CHECK.same("best order of two times", Model.of(shop).best(0).first, Shops.bestOrder(shop, 0));
    }

    private static void gaps() {
        Flowforge shop = three();
        CHECK.same("gap() of a best order", 0.0, shop.gap());
        Shops.arrange(shop, 2, 1, 0);
        CHECK.same("gap() of the order 210", 1.0 / 15.0, shop.gap());
        Flowforge pair = Shops.of(2, Shops.row(9, 1), Shops.row(1, 9));
        CHECK.same("gap() of the order 01", 8.0 / 11.0, pair.gap());
        Flowforge zero = Shops.of(2, Shops.row(0, 0), Shops.row(0, 0));
        CHECK.same("gap() of times 0", 0.0, zero.gap());
        // Its makespans of the other variants are 22.
        Flowforge queued = Shops.of(3, Shops.row(1, 1, 9), Shops.row(1, 1, 1), Shops.row(1, 9, 1), Shops.row(9, 1, 1));
        CHECK.same("gap() where blocking falls apart", 0.0, queued.gap());
        // A gap above 1.
        Flowforge wide = Shops.of(5, Shops.row(0, 0, 0, 0, 99), Shops.row(99, 0, 0, 0, 0), Shops.row(0, 0, 0, 99, 0));
        Shops.arrange(wide, 1, 2, 0);
        CHECK.same("gap() of the slowest order", 2.0, wide.gap());
    }

    private static void withoutJobs() {
        Flowforge shop = new Flowforge();
        CHECK.same("machineBound(0) without jobs", 0, shop.machineBound(0));
        CHECK.same("machineBound(1) without jobs", 0, shop.machineBound(1));
        CHECK.same("pairBound(0, 1) without jobs", 0, shop.pairBound(0, 1));
        CHECK.fails("machineBound(2) without jobs", INDEX, () -> shop.machineBound(2));
        CHECK.fails("pairBound(0, 2) without jobs", INDEX, () -> shop.pairBound(0, 2));
        CHECK.fails("pairBound(1, 0) without jobs", ARGUMENT, () -> shop.pairBound(1, 0));
        for (int variant = 0; variant < 3; variant++) {
            int it = variant;
            CHECK.same("best(" + variant + ") without jobs", 0, shop.best(variant));
            CHECK.same("bestOrders(" + variant + ") without jobs", 1, shop.bestOrders(variant));
            CHECK.fails("bestAt(" + variant + ", 0) without jobs", INDEX, () -> shop.bestAt(it, 0));
        }
        CHECK.same("gap() without jobs", 0.0, shop.gap());
    }

    private static void oneJob() {
        Flowforge shop = Shops.of(4, Shops.row(1, 2, 3, 4));
        for (int variant = 0; variant < 3; variant++) {
            CHECK.same("best(" + variant + ")", 10, shop.best(variant));
            CHECK.same("bestOrders(" + variant + ")", 1, shop.bestOrders(variant));
            CHECK.same("bestAt(" + variant + ", 0)", 0, shop.bestAt(variant, 0));
        }
        for (int machine = 0; machine < 4; machine++) {
            CHECK.same("machineBound(" + machine + ")", 10, shop.machineBound(machine));
        }
        CHECK.same("pairBound(0, 3)", 5, shop.pairBound(0, 3));
        CHECK.same("pairBound(1, 2)", 10, shop.pairBound(1, 2));
        CHECK.same("gap()", 0.0, shop.gap());
    }

    /** The best order of these is the last one of all, so that each order must be looked at. */
    private static void fullSize() {
        Flowforge shop = new Flowforge();
        for (int job = 0; job < 7; job++) {
            shop.addJob();
            shop.setTime(job, 0, 70 - 10 * job);
            shop.setTime(job, 1, 80 - 10 * job);
        }
        CHECK.same("best(0)", 360, shop.best(0));
        for (int variant = 0; variant < 3; variant++) {
            Model.Best best = Model.of(shop).best(variant);
            CHECK.same("best(" + variant + ")", best.makespan, shop.best(variant));
            CHECK.same("bestOrders(" + variant + ")", best.count, shop.bestOrders(variant));
            CHECK.same("best order of variant " + variant, best.first, Shops.bestOrder(shop, variant));
        }
        CHECK.same("best order of no-wait", "6543210", Shops.bestOrder(shop, 2));
    }

    private static void wrongArguments() {
        Flowforge shop = three();
        String before = Shops.state(shop);
        for (int variant : WRONG_VARIANTS) {
            CHECK.fails("best(" + variant + ")", ARGUMENT, () -> shop.best(variant));
            CHECK.fails("bestOrders(" + variant + ")", ARGUMENT, () -> shop.bestOrders(variant));
            CHECK.fails("bestAt(" + variant + ", 0)", ARGUMENT, () -> shop.bestAt(variant, 0));
            CHECK.fails("bestAt(" + variant + ", 3)", ARGUMENT, () -> shop.bestAt(variant, 3));
        }
        for (int wrong : WRONG_THIRDS) {
            CHECK.fails("bestAt(0, " + wrong + ")", INDEX, () -> shop.bestAt(0, wrong));
            CHECK.fails("machineBound(" + wrong + ")", INDEX, () -> shop.machineBound(wrong));
            CHECK.fails("pairBound(" + wrong + ", 1)", INDEX, () -> shop.pairBound(wrong, 1));
            CHECK.fails("pairBound(1, " + wrong + ")", INDEX, () -> shop.pairBound(1, wrong));
            CHECK.fails("pairBound(" + wrong + ", " + wrong + ")", INDEX, () -> shop.pairBound(wrong, wrong));
        }
        for (int second = 0; second < 3; second++) {
            for (int first = second; first < 3; first++) {
                int low = second;
                int high = first;
                CHECK.fails("pairBound(" + first + ", " + second + ")", ARGUMENT, () -> shop.pairBound(high, low));
            }
        }
        CHECK.same("state behind all that threw", before, Shops.state(shop));
    }
}
