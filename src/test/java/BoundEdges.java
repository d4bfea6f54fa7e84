import java.util.List;

/** Promises 21 to 26, sentence by sentence. */
final class BoundEdges {
    private static final String VARIANTS = "`variant`: 0, 1 or 2";
    private static final String WRONG_VARIANT = "Throws `IllegalArgumentException` if variant is out of range";
    private static final String WRONG_MACHINE = "Throws `IndexOutOfBoundsException` if there is no such machine";
    private static final String BOUND = "Returns the bound; 0 if there are no jobs.";

    private final Edges edges;

    BoundEdges(Edges edges) {
        this.edges = edges;
    }

    void run() {
        edges.under("Promise 21: machineBound");
        edges.test("Returns the bound of a machine: the times of all jobs on it together, plus the least sum of the times "
            + "of a job on the machines before it, plus the least sum of the times of a job on the machines behind it.",
            this::machineBounds);
        edges.test("(Both least sums may be of the same job.)", this::bothSumsOfOneJob);
        edges.test("`machine`: its number", this::boundOfFirstAndLastMachine);
        edges.test(BOUND, this::machineBoundWithoutJobs);
        edges.test(WRONG_MACHINE, this::boundOfWrongMachineIsRefused);

        edges.under("Promise 22: pairBound");
        edges.test("Returns the bound of two machines: the least plain makespan that any order of the jobs has if there "
            + "are just these two machines, plus the least sum of the times of a job on the machines before the first "
            + "one, plus the least sum of the times of a job on the machines behind the second one.", this::pairBounds);
        edges.test("`first`: its number", this::leastAndGreatestFirst);
        edges.test("`second`: its number", this::leastAndGreatestSecond);
        edges.test(BOUND, this::pairBoundWithoutJobs);
        edges.test(WRONG_MACHINE, this::pairOfWrongMachineIsRefused);
        edges.test("Throws `IllegalArgumentException` if first is not less than second", this::wrongPairsAreRefused);

        edges.under("Promise 23: best");
        edges.test("Returns the least makespan of all orders.", this::leastOfAllOrders);
        edges.test(VARIANTS, this::bestOfEachVariant);
        edges.test("Returns the least makespan.", this::leastAndGreatestBest);
        edges.test(WRONG_VARIANT, this::bestOfWrongVariantIsRefused);

        edges.under("Promise 24: bestAt");
        edges.test("Returns a job of the best order, which is the first one of all orders with the least makespan.",
            this::firstBestOrder);
        edges.test(VARIANTS, this::bestOrderOfEachVariant);
        edges.test("`place`: a place of that order", this::firstAndLastPlaceOfTheBestOrder);
        edges.test("Returns the number of the job.", this::bestAtReturnsTheNumber);
        edges.test(WRONG_VARIANT, this::bestAtOfWrongVariantIsRefused);
        edges.test("Throws `IndexOutOfBoundsException` if there is no such place", this::bestAtBesideTheOrderIsRefused);

        edges.under("Promise 25: bestOrders");
        edges.test("Returns how many orders have the least makespan.", this::bestOrdersAreCounted);
        edges.test(VARIANTS, this::bestOrdersOfEachVariant);
        edges.test("Returns their number; 1 if there are no jobs.", this::leastAndGreatestNumberOfBestOrders);
        edges.test(WRONG_VARIANT, this::bestOrdersOfWrongVariantIsRefused);

        edges.under("Promise 26: gap");
        edges.test("Returns by how much the order is worse than a best one in the plain variant.", this::plainGap);
        edges.test("Returns the makespan of the order minus the least makespan, as a double, divided by the least "
            + "makespan, as a double; 0.0 if the least makespan is 0.", this::gapOfTheEdges);
    }

    /** In each variant 01 takes 19 and 10 takes 11. */
    private static Flowforge pair() {
        return Shops.of(2, Shops.row(9, 1), Shops.row(1, 9));
    }

    /** Without waiting, only the last of all orders of 7 jobs is best, 6543210, if they shrink; 0123456 if they grow. */
    private static Flowforge steps(int first, int step) {
        Flowforge shop = TimeEdges.seven(2);
        for (int job = 0; job < 7; job++) {
            shop.setTime(job, 0, first + step * job);
            shop.setTime(job, 1, first + step * job + 10);
        }
        return shop;
    }

    /**
     * In the variants 0, 1 and 2 the order 012 takes 11, 11, 11; 102 takes 9, 11, 11; 120 takes 9, 10, 11; the others
     * take 13 or more.
     */
    private static Flowforge apart() {
        return Shops.of(3, Shops.row(1, 2, 1), Shops.row(0, 5, 2), Shops.row(5, 0, 1));
    }

    // ---- machineBound

    private void machineBounds() {
        Flowforge shop = Sample.THREE_JOBS.make();
        edges.same("machineBound(0)", 8 + 0 + 4, shop.machineBound(0));
        edges.same("machineBound(1)", 8 + 1 + 2, shop.machineBound(1));
        edges.same("machineBound(2)", 9 + 5 + 0, shop.machineBound(2));
        Flowforge one = Shops.of(5, Shops.row(1, 2, 4, 8, 16));
        for (int machine = 0; machine < 5; machine++) {
            edges.same("machineBound(" + machine + ") of one job", 31, one.machineBound(machine));
            edges.same("machineBound(" + machine + ") of times 0", 0, TimeEdges.seven(5).machineBound(machine));
            edges.same("machineBound(" + machine + ") of times 99", 11 * 99, ScheduleEdges.full().machineBound(machine));
        }
        // The least sums are of the first job, of a middle one and of the last one.
        Flowforge least = Shops.of(3, Shops.row(1, 4, 9), Shops.row(8, 4, 2), Shops.row(7, 4, 8));
        edges.same("machineBound(1), the sums of the jobs 0 and 1", 12 + 1 + 2, least.machineBound(1));
        Flowforge last = Shops.of(3, Shops.row(8, 4, 9), Shops.row(7, 4, 8), Shops.row(1, 4, 2));
        edges.same("machineBound(1), the sums of the last job", 12 + 1 + 2, last.machineBound(1));
        // The sum of several machines counts, not the sum of each one's least time.
        Flowforge sums = Shops.of(3, Shops.row(1, 9, 5), Shops.row(9, 1, 5));
        edges.same("machineBound(2) with sums of 10", 10 + 10, sums.machineBound(2));
        Flowforge behind = Shops.of(3, Shops.row(5, 1, 9), Shops.row(5, 9, 1));
        edges.same("machineBound(0) with sums of 10 behind", 10 + 10, behind.machineBound(0));
    }

    private void bothSumsOfOneJob() {
        Flowforge both = Shops.of(3, Shops.row(1, 4, 2), Shops.row(9, 4, 9));
        edges.same("machineBound(1) with both sums of the job 0", 8 + 1 + 2, both.machineBound(1));
        edges.same("machineBound(1) of one job", 7, Shops.of(3, Shops.row(1, 4, 2)).machineBound(1));
    }

    private void boundOfFirstAndLastMachine() {
        edges.same("machineBound(0) of one machine", 103, Sample.ONE_MACHINE.make().machineBound(0));
        Flowforge shop = Shops.of(5, Shops.row(1, 2, 3, 4, 5), Shops.row(6, 7, 8, 9, 10));
        edges.same("machineBound(0) of 5 machines", 7 + 0 + 14, shop.machineBound(0));
        edges.same("machineBound(4) of 5 machines", 15 + 10 + 0, shop.machineBound(4));
        shop.setMachines(2);
        edges.same("machineBound(1) of fewer machines", 9 + 1 + 0, shop.machineBound(1));
        shop.setMachines(3);
        edges.same("machineBound(1) of more machines again", 9 + 1 + 0, shop.machineBound(1));
    }

    private void machineBoundWithoutJobs() {
        for (int machines = 1; machines <= 5; machines++) {
            Flowforge shop = new Flowforge();
            shop.setMachines(machines);
            for (int machine = 0; machine < machines; machine++) {
                edges.same("machineBound(" + machine + ") of " + machines + " without jobs", 0, shop.machineBound(machine));
            }
        }
    }

    private void boundOfWrongMachineIsRefused() {
        edges.refusedOutside("machineBound(%)", Edges.INDEX, Room.MACHINE, Sample.ALL, Flowforge::machineBound);
    }

    // ---- pairBound

    private void pairBounds() {
        Flowforge shop = Sample.THREE_JOBS.make();
        edges.same("pairBound(0, 1)", 9 + 0 + 2, shop.pairBound(0, 1));
        edges.same("pairBound(1, 2)", 10 + 1 + 0, shop.pairBound(1, 2));
        edges.same("pairBound(0, 2)", 11 + 0 + 0, shop.pairBound(0, 2));
        Flowforge full = Sample.SEVEN_JOBS_FIVE_MACHINES.make();
        Model model = Model.of(full);
        for (int first = 0; first < 5; first++) {
            for (int second = first + 1; second < 5; second++) {
                edges.same("pairBound(" + first + ", " + second + ") of 7 jobs", model.pairBound(first, second),
                    full.pairBound(first, second));
                edges.same("pairBound(" + first + ", " + second + ") of times 0", 0, TimeEdges.seven(5).pairBound(first, second));
            }
        }
        edges.same("pairBound(1, 3) of times 99", 10 * 99, ScheduleEdges.full().pairBound(1, 3));
        edges.same("pairBound(0, 1) of equal times", 5 + 3 * 5, Shops.of(2, Shops.row(5, 5), Shops.row(5, 5),
            Shops.row(5, 5)).pairBound(0, 1));
    }

    private static Flowforge wide() {
        return Shops.of(5, Shops.row(7, 2, 50, 3, 9), Shops.row(8, 4, 60, 1, 6));
    }

    private void leastAndGreatestFirst() {
        edges.same("pairBound(0, 1) of 2 machines", 11, pair().pairBound(0, 1));
        edges.same("pairBound(0, 3), nothing before", 16 + 0 + 6, wide().pairBound(0, 3));
        edges.same("pairBound(1, 3)", 7 + 7 + 6, wide().pairBound(1, 3));
        // On the machines 3 and 4 alone the order 10 takes 16, and 01 takes 18.
        edges.same("pairBound(3, 4), three before", 16 + 59 + 0, wide().pairBound(3, 4));
    }

    private void leastAndGreatestSecond() {
        // On the machines 0 and 1 alone the order 01 takes 19, and 10 takes 17.
        edges.same("pairBound(0, 1), three behind", 17 + 0 + 62, wide().pairBound(0, 1));
        // On the machines 0 and 4 alone the order 01 takes 22, and 10 takes 24.
        edges.same("pairBound(0, 4), nothing behind", 22 + 0 + 0, wide().pairBound(0, 4));
        Flowforge one = Shops.of(5, Shops.row(1, 2, 4, 8, 16));
        edges.same("pairBound(0, 4) of one job", 17, one.pairBound(0, 4));
        edges.same("pairBound(1, 2) of one job", 31, one.pairBound(1, 2));
        edges.same("pairBound(1, 3) of one job", 27, one.pairBound(1, 3));
    }

    private void pairBoundWithoutJobs() {
        for (int machines = 2; machines <= 5; machines++) {
            Flowforge shop = new Flowforge();
            shop.setMachines(machines);
            edges.same("pairBound(0, 1) without jobs", 0, shop.pairBound(0, 1));
            edges.same("pairBound(0, last) without jobs", 0, shop.pairBound(0, machines - 1));
        }
    }

    private void pairOfWrongMachineIsRefused() {
        edges.refusedOutside("pairBound(%, 1)", Edges.INDEX, Room.MACHINE, Sample.ALL, (shop, first) -> shop.pairBound(first, 1));
        edges.refusedOutside("pairBound(0, %)", Edges.INDEX, Room.MACHINE, Sample.ALL, (shop, second) -> shop.pairBound(0, second));
        edges.refusedOutside("pairBound(last, %)", Edges.INDEX, Room.MACHINE, Sample.ALL,
            (shop, second) -> shop.pairBound(shop.machines() - 1, second));
        // That a machine is not there is documented first, so it counts if the first one is not less, too.
        edges.refusedOutside("pairBound(%, %)", Edges.INDEX, Room.MACHINE, Sample.ALL, (shop, both) -> shop.pairBound(both, both));
        edges.refusedOutside("pairBound(%, 0)", Edges.INDEX, Room.MACHINE, Sample.ALL, (shop, first) -> shop.pairBound(first, 0));
        edges.refusedOutside("pairBound(%, -1)", Edges.INDEX, Room.MACHINE, Sample.ALL, (shop, first) -> shop.pairBound(first, -1));
    }

    private void wrongPairsAreRefused() {
        for (Sample sample : Sample.ALL) {
            int machines = sample.make().machines();
            for (int second = 0; second < machines; second++) {
                for (int first = second; first < machines; first++) {
                    int low = second;
                    int high = first;
                    edges.refused("pairBound(" + high + ", " + low + ")", Edges.ARGUMENT, sample, shop -> shop.pairBound(high, low));
                }
            }
        }
    }

    // ---- best

    private void leastOfAllOrders() {
        edges.same("best(0) if the last of all orders is best", 11, pair().best(0));
        edges.same("best(2) if only the last of 5040 orders is best", 360, steps(70, -10).best(2));
        edges.same("best(2) if only the first of 5040 orders is best", 360, steps(10, 10).best(2));
        for (Sample sample : Sample.ALL) {
            Flowforge shop = sample.make();
            Model model = Model.of(shop);
            for (int variant = 0; variant < 3; variant++) {
                edges.same("best(" + variant + ") of " + sample, model.best(variant).makespan, shop.best(variant));
            }
        }
        Flowforge moved = pair();
        moved.best(0);
        moved.move(1, 0);
        edges.same("best(0) of another order", 11, moved.best(0));
        moved.addJob();
        moved.setTime(2, 0, 5);
        edges.same("best(0) of another job", 15, moved.best(0));
        moved.setMachines(1);
        edges.same("best(0) of fewer machines", 15, moved.best(0));
        moved.setMachines(2);
        moved.setTime(2, 0, 0);
        edges.same("best(0) of more machines again, where the times are 0", 10, moved.best(0));
    }

    private void bestOfEachVariant() {
        edges.same("best(0)", 9, apart().best(0));
        edges.same("best(1)", 10, apart().best(1));
        edges.same("best(2)", 11, apart().best(2));
    }

    private void leastAndGreatestBest() {
        for (int variant = 0; variant < 3; variant++) {
            edges.same("best(" + variant + ") without jobs", 0, new Flowforge().best(variant));
            edges.same("best(" + variant + ") of one job", 99, Sample.ONE_JOB.make().best(variant));
            edges.same("best(" + variant + ") on one machine", 103, Sample.ONE_MACHINE.make().best(variant));
            edges.same("best(" + variant + ") of times 0", 0, TimeEdges.seven(5).best(variant));
            edges.same("best(" + variant + ") of times 99", 11 * 99, ScheduleEdges.full().best(variant));
        }
    }

    private void bestOfWrongVariantIsRefused() {
        edges.refusedOutside("best(%)", Edges.ARGUMENT, Room.VARIANT, Sample.ALL, Flowforge::best);
    }

    // ---- bestAt

    private void firstBestOrder() {
        edges.same("the first one of four", "012", Shops.bestOrder(Sample.THREE_JOBS.make(), 0));
        edges.same("the only one, which is the last of two", "10", Shops.bestOrder(pair(), 0));
        edges.same("the only one, which is the last of 5040", "6543210", Shops.bestOrder(steps(70, -10), 2));
        edges.same("the only one, which is the first of 5040", "0123456", Shops.bestOrder(steps(10, 10), 2));
        edges.same("the first one of 5040 equal ones", "0123456", Shops.bestOrder(ScheduleEdges.full(), 1));
        for (Sample sample : Sample.ALL) {
            Flowforge shop = sample.make();
            String order = Shops.order(shop);
            Model model = Model.of(shop);
            for (int variant = 0; variant < 3; variant++) {
                edges.same("best order of variant " + variant + " of " + sample, model.best(variant).first,
                    Shops.bestOrder(shop, variant));
            }
            edges.same("order of " + sample + " behind it", order, Shops.order(shop));
        }
    }

    private void bestOrderOfEachVariant() {
        edges.same("best order of variant 0, 102 or 120", "102", Shops.bestOrder(apart(), 0));
        edges.same("best order of variant 1, 120 alone", "120", Shops.bestOrder(apart(), 1));
        edges.same("best order of variant 2, 012, 102 or 120", "012", Shops.bestOrder(apart(), 2));
    }

    private void firstAndLastPlaceOfTheBestOrder() {
        for (int variant = 0; variant < 3; variant++) {
            edges.same("bestAt(" + variant + ", 0) of one job", 0, Sample.ONE_JOB.make().bestAt(variant, 0));
            edges.same("bestAt(" + variant + ", 0)", 1, pair().bestAt(variant, 0));
            edges.same("bestAt(" + variant + ", 1)", 0, pair().bestAt(variant, 1));
            edges.same("bestAt(" + variant + ", 6) of 7 jobs", 6, TimeEdges.seven(5).bestAt(variant, 6));
        }
    }

    private void bestAtReturnsTheNumber() {
        edges.same("bestAt(2, 0), the greatest number", 6, steps(70, -10).bestAt(2, 0));
        edges.same("bestAt(2, 6), the least number", 0, steps(70, -10).bestAt(2, 6));
        Flowforge moved = TimeEdges.seven(2);
        moved.move(6, 0);
        edges.same("bestAt(0, 0), whatever the order", 0, moved.bestAt(0, 0));
    }

    private void bestAtOfWrongVariantIsRefused() {
        edges.refusedOutside("bestAt(%, 0)", Edges.ARGUMENT, Room.VARIANT, Sample.ALL, (shop, variant) -> shop.bestAt(variant, 0));
        // The wrong variant is documented first.
        edges.refusedOutside("bestAt(%, -1)", Edges.ARGUMENT, Room.VARIANT, Sample.ALL, (shop, variant) -> shop.bestAt(variant, -1));
        edges.refusedOutside("bestAt(%, 7)", Edges.ARGUMENT, Room.VARIANT, Sample.ALL, (shop, variant) -> shop.bestAt(variant, 7));
    }

    private void bestAtBesideTheOrderIsRefused() {
        for (int variant = 0; variant < 3; variant++) {
            int it = variant;
            edges.refusedOutside("bestAt(" + variant + ", %)", Edges.INDEX, Room.PLACE, Sample.ALL,
                (shop, place) -> shop.bestAt(it, place));
        }
    }

    // ---- bestOrders

    private void bestOrdersAreCounted() {
        edges.same("bestOrders(0), four of six", 4, Sample.THREE_JOBS.make().bestOrders(0));
        edges.same("bestOrders(2) if only the last of 5040 orders is best", 1, steps(70, -10).bestOrders(2));
        edges.same("bestOrders(2) if only the first of 5040 orders is best", 1, steps(10, 10).bestOrders(2));
        for (Sample sample : Sample.ALL) {
            Flowforge shop = sample.make();
            Model model = Model.of(shop);
            for (int variant = 0; variant < 3; variant++) {
                edges.same("bestOrders(" + variant + ") of " + sample, model.best(variant).count, shop.bestOrders(variant));
                edges.same("bestOrders(" + variant + ") again", model.best(variant).count, shop.bestOrders(variant));
            }
        }
    }

    private void bestOrdersOfEachVariant() {
        Flowforge shop = apart();
        edges.same("bestOrders(0)", 2, shop.bestOrders(0));
        edges.same("bestOrders(1)", 1, shop.bestOrders(1));
        edges.same("bestOrders(2)", 3, shop.bestOrders(2));
        edges.same("bestOrders(0) again", 2, shop.bestOrders(0));
    }

    private void leastAndGreatestNumberOfBestOrders() {
        for (int variant = 0; variant < 3; variant++) {
            edges.same("bestOrders(" + variant + ") without jobs", 1, new Flowforge().bestOrders(variant));
            edges.same("bestOrders(" + variant + ") of one job", 1, Sample.ONE_JOB.make().bestOrders(variant));
            edges.same("bestOrders(" + variant + ") of two jobs, one way", 1, pair().bestOrders(variant));
            edges.same("bestOrders(" + variant + ") of three jobs on one machine", 6, Sample.ONE_MACHINE.make().bestOrders(variant));
            edges.same("bestOrders(" + variant + ") of times 0", 5040, TimeEdges.seven(5).bestOrders(variant));
            edges.same("bestOrders(" + variant + ") of times 99", 5040, ScheduleEdges.full().bestOrders(variant));
        }
        Flowforge growing = new Flowforge();
        int orders = 1;
        for (int jobs = 1; jobs <= 7; jobs++) {
            growing.addJob();
            orders *= jobs;
            edges.same("bestOrders(0) of " + jobs + " equal jobs", orders, growing.bestOrders(0));
        }
    }

    private void bestOrdersOfWrongVariantIsRefused() {
        edges.refusedOutside("bestOrders(%)", Edges.ARGUMENT, Room.VARIANT, Sample.ALL, Flowforge::bestOrders);
    }

    // ---- gap

    private void plainGap() {
        edges.same("gap() of the order 210, which takes 16 for 15", 1.0 / 15.0, Sample.THREE_JOBS.make().gap());
        edges.same("gap() of the order 01, which takes 19 for 11", 8.0 / 11.0, pair().gap());
        edges.same("gap() where only blocking could be better", 0.0, OrderEdges.queued().gap());
        Flowforge improved = pair();
        improved.gap();
        improved.move(1, 0);
        edges.same("gap() of a best order", 0.0, improved.gap());
        improved.move(1, 1);
        improved.setTime(0, 0, 1);
        edges.same("gap() of another time", 0.0, improved.gap());
    }

    private void gapOfTheEdges() {
        edges.same("gap() without jobs", 0.0, new Flowforge().gap());
        edges.same("gap() of times 0", 0.0, TimeEdges.seven(5).gap());
        edges.same("gap() of one job", 0.0, Sample.ONE_JOB.make().gap());
        edges.same("gap() on one machine", 0.0, Sample.ONE_MACHINE.make().gap());
        edges.same("gap() of times 99", 0.0, ScheduleEdges.full().gap());
        Flowforge twice = Shops.of(2, Shops.row(99, 0), Shops.row(0, 99));
        edges.same("gap() of 198 for 99", 1.0, twice.gap());
        Flowforge small = Shops.of(2, Shops.row(1, 0), Shops.row(0, 1));
        edges.same("gap() of 2 for 1", 1.0, small.gap());
        Flowforge wide = Shops.of(5, Shops.row(0, 0, 0, 0, 99), Shops.row(99, 0, 0, 0, 0), Shops.row(0, 0, 0, 99, 0));
        Shops.arrange(wide, 1, 2, 0);
        edges.same("gap() of 297 for 99", 2.0, wide.gap());
        for (Sample sample : List.of(Sample.SEVEN_JOBS_TWO_MACHINES, Sample.SEVEN_JOBS_FIVE_MACHINES)) {
            edges.same("gap() of " + sample, Model.of(sample.make()).gap(), sample.make().gap());
        }
    }
}
