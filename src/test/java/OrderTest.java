/** Promises 8 to 13: jobAt, move, makespanIfMoved, orderByRule, orderByInsertion, improve. */
final class OrderTest {
    private static final Class<IndexOutOfBoundsException> INDEX = IndexOutOfBoundsException.class;
    private static final Class<IllegalStateException> STATE = IllegalStateException.class;

    private static final Check CHECK = new Check("OrderTest");

    public static void main(String[] args) {
        placesAreRead();
        jobsAreMoved();
        movesAreTried();
        rule();
        ruleWithEqualTimes();
        ruleNeedsTwoMachines();
        insertion();
        insertionBySums();
        insertionWithEqualSums();
        improving();
        improvingChoosesTheLeast();
        withoutJobs();
        oneJob();
        CHECK.end();
    }

    /** Makespans: 012, 021, 102 and 120 take 15, 201 and 210 take 16. */
    private static Flowforge three() {
        return Shops.of(3, Shops.row(3, 2, 4), Shops.row(1, 5, 2), Shops.row(4, 1, 3));
    }

    private static Flowforge seven() {
        Flowforge shop = new Flowforge();
        for (int job = 0; job < 7; job++) {
            shop.addJob();
        }
        return shop;
    }

    private static void placesAreRead() {
        Flowforge shop = three();
        CHECK.same("order", "012", Shops.order(shop));
        shop.move(2, 0);
        CHECK.same("jobAt(0)", 2, shop.jobAt(0));
        CHECK.same("jobAt(1)", 0, shop.jobAt(1));
        CHECK.same("jobAt(2)", 1, shop.jobAt(2));
        for (int place : new int[] {-1, 3, 6, 7, Integer.MIN_VALUE, Integer.MAX_VALUE}) {
            CHECK.fails("jobAt(" + place + ")", INDEX, () -> shop.jobAt(place));
        }
    }

    private static void jobsAreMoved() {
        Flowforge shop = seven();
        moved(shop, 2, 5, 2, "0134526");
        moved(shop, 6, 0, 6, "6013452");
        moved(shop, 6, 6, 0, "0134526");
        moved(shop, 2, 5, 5, "0134526");
        moved(shop, 5, 1, 4, "0513426");
        moved(shop, 0, 6, 0, "5134260");
        moved(shop, 0, 0, 6, "0513426");
        moved(shop, 1, 3, 2, "0531426");
        for (int wrong : new int[] {-1, 7, 8, Integer.MIN_VALUE, Integer.MAX_VALUE}) {
            CHECK.fails("move(" + wrong + ", 0)", INDEX, () -> shop.move(wrong, 0));
            CHECK.fails("move(0, " + wrong + ")", INDEX, () -> shop.move(0, wrong));
        }
        CHECK.same("order behind all that threw", "0531426", Shops.order(shop));
        Flowforge small = three();
        CHECK.fails("move(3, 0) with 3 jobs", INDEX, () -> small.move(3, 0));
        CHECK.fails("move(0, 3) with 3 jobs", INDEX, () -> small.move(0, 3));
        CHECK.same("order of 3 jobs", "012", Shops.order(small));
    }

    private static void moved(Flowforge shop, int job, int place, int before, String order) {
        CHECK.same("move(" + job + ", " + place + ")", before, shop.move(job, place));
        CHECK.same("order behind move(" + job + ", " + place + ")", order, Shops.order(shop));
    }

    private static void movesAreTried() {
        Flowforge shop = three();
        shop.move(2, 0);
        shop.move(1, 1);
        CHECK.same("order", "210", Shops.order(shop));
        CHECK.same("makespanIfMoved(2, 0), where it is", 16, shop.makespanIfMoved(2, 0));
        CHECK.same("makespanIfMoved(1, 1), where it is", 16, shop.makespanIfMoved(1, 1));
        CHECK.same("makespanIfMoved(2, 1)", 15, shop.makespanIfMoved(2, 1));
        CHECK.same("makespanIfMoved(2, 2)", 15, shop.makespanIfMoved(2, 2));
        CHECK.same("makespanIfMoved(1, 2)", 16, shop.makespanIfMoved(1, 2));
        CHECK.same("makespanIfMoved(0, 1)", 16, shop.makespanIfMoved(0, 1));
        CHECK.same("makespanIfMoved(0, 0)", 15, shop.makespanIfMoved(0, 0));
        CHECK.same("order behind the trials", "210", Shops.order(shop));
        CHECK.same("makespan(0) behind the trials", 16, shop.makespan(0));
        for (int wrong : new int[] {-1, 3, 7, Integer.MIN_VALUE, Integer.MAX_VALUE}) {
            CHECK.fails("makespanIfMoved(" + wrong + ", 0)", INDEX, () -> shop.makespanIfMoved(wrong, 0));
            CHECK.fails("makespanIfMoved(0, " + wrong + ")", INDEX, () -> shop.makespanIfMoved(0, wrong));
        }
    }

    private static void rule() {
        Flowforge shop = Shops.of(2, Shops.row(5, 2), Shops.row(1, 6), Shops.row(9, 7), Shops.row(3, 8), Shops.row(10, 4));
        CHECK.same("orderByRule()", 30, shop.orderByRule());
        CHECK.same("order", "13240", Shops.order(shop));
        CHECK.same("makespan(0)", 30, shop.makespan(0));
        CHECK.same("best(0)", 30, shop.best(0));
    }

    private static void ruleWithEqualTimes() {
        Flowforge equal = Shops.of(2, Shops.row(2, 2), Shops.row(2, 5), Shops.row(2, 2),
            Shops.row(4, 1), Shops.row(5, 1), Shops.row(3, 1));
        Shops.arrange(equal, 5, 4, 3, 2, 1, 0);
        equal.orderByRule();
        CHECK.same("order of equal times", "012345", Shops.order(equal));

        Flowforge same = Shops.of(2, Shops.row(5, 9), Shops.row(3, 3));
        same.orderByRule();
        CHECK.same("a time on machine 0 that is the time on machine 1 is among the first", "10", Shops.order(same));

        Flowforge zero = Shops.of(2, Shops.row(1, 0), Shops.row(0, 0), Shops.row(0, 1), Shops.row(99, 99));
        CHECK.same("orderByRule() of times 0 and 99", 198, zero.orderByRule());
        CHECK.same("order of times 0 and 99", "1230", Shops.order(zero));
    }

    private static void ruleNeedsTwoMachines() {
        Flowforge shop = Shops.of(2, Shops.row(5, 2), Shops.row(1, 6));
        for (int machines : new int[] {1, 3, 4, 5}) {
            shop.setMachines(machines);
            CHECK.fails("orderByRule() with " + machines + " machines", STATE, shop::orderByRule);
            CHECK.same("order behind it", "01", Shops.order(shop));
        }
    }

    private static void insertion() {
        Flowforge shop = three();
        CHECK.same("orderByInsertion()", 15, shop.orderByInsertion());
        CHECK.same("order by insertion", "120", Shops.order(shop));
        Shops.arrange(shop, 2, 1, 0);
        CHECK.same("orderByInsertion() from another order", 15, shop.orderByInsertion());
        CHECK.same("order by insertion from another order", "120", Shops.order(shop));
    }

    private static void insertionBySums() {
        // Whatever the order, the makespan of one machine is the same, so each job goes to the place 0.
        CHECK.same("order of rising sums", "0123", inserted(1, Shops.row(1), Shops.row(2), Shops.row(3), Shops.row(4)));
        CHECK.same("order of falling sums", "3210", inserted(1, Shops.row(4), Shops.row(3), Shops.row(2), Shops.row(1)));
        CHECK.same("order of mixed sums", "0231", inserted(1, Shops.row(5), Shops.row(9), Shops.row(7), Shops.row(9)));
        CHECK.same("order if the end is the best place", "01", inserted(2, Shops.row(1, 9), Shops.row(9, 1)));
        // The rule is right on two machines, and insertion finds the same makespan here.
        Flowforge shop = Shops.of(2, Shops.row(5, 5), Shops.row(6, 4), Shops.row(1, 9));
        CHECK.same("orderByInsertion() on two machines", 19, shop.orderByInsertion());
        CHECK.same("order on two machines", "201", Shops.order(shop));
        shop.setTime(0, 0, 0);
        shop.setTime(0, 1, 0);
        CHECK.same("orderByInsertion() again, of another time", 14, shop.orderByInsertion());
        CHECK.same("order of another time", "021", Shops.order(shop));
        // It is the plain makespan that counts, and it is that of blocking that would be 22.
        Flowforge queued = queued();
        CHECK.same("orderByInsertion() where blocking falls apart", queued.makespan(0), queued.orderByInsertion());
    }

    private static String inserted(int machines, int[]... rows) {
        Flowforge shop = Shops.of(machines, rows);
        shop.orderByInsertion();
        return Shops.order(shop);
    }

    /** Plain, the order 0123 takes 14; blocking, it takes 22. */
    private static Flowforge queued() {
        return Shops.of(3, Shops.row(1, 1, 9), Shops.row(1, 1, 1), Shops.row(1, 9, 1), Shops.row(9, 1, 1));
    }

    private static void insertionWithEqualSums() {
        // Whatever the order, the makespan of one machine is the same, so each job goes to the place 0.
        Flowforge shop = Shops.of(1, Shops.row(4), Shops.row(9), Shops.row(4), Shops.row(4));
        CHECK.same("orderByInsertion() on one machine", 21, shop.orderByInsertion());
        CHECK.same("order on one machine", "3201", Shops.order(shop));
        Flowforge zero = seven();
        CHECK.same("orderByInsertion() of times 0", 0, zero.orderByInsertion());
        CHECK.same("order of times 0", "6543210", Shops.order(zero));
        // The sums go over all machines; on the machines without times the jobs would be equal.
        Flowforge behind = Shops.of(2, Shops.row(0, 4), Shops.row(0, 9), Shops.row(0, 4));
        CHECK.same("orderByInsertion() with times on the last machine", 17, behind.orderByInsertion());
        CHECK.same("order with times on the last machine", "201", Shops.order(behind));
        Flowforge ahead = Shops.of(2, Shops.row(4, 0), Shops.row(9, 0), Shops.row(4, 0));
        CHECK.same("orderByInsertion() with times on the first machine", 17, ahead.orderByInsertion());
        CHECK.same("order with times on the first machine", "201", Shops.order(ahead));
    }

    private static void improving() {
        Flowforge shop = three();
        Shops.arrange(shop, 2, 1, 0);
        CHECK.same("improve()", 1, shop.improve());
        CHECK.same("order, of several moves the first job's to the lowest place", "120", Shops.order(shop));
        CHECK.same("improve() again", 0, shop.improve());
        CHECK.same("order if nothing is better", "120", Shops.order(shop));
    }

    private static void improvingChoosesTheLeast() {
        // Makespans on two machines: 012 takes 21, 102 takes 16, 120 takes 13.
        Flowforge shop = Shops.of(2, Shops.row(9, 1), Shops.row(2, 6), Shops.row(1, 4));
        CHECK.same("makespan(0)", 21, shop.makespan(0));
        CHECK.same("makespanIfMoved(0, 1)", 16, shop.makespanIfMoved(0, 1));
        CHECK.same("makespanIfMoved(0, 2)", 13, shop.makespanIfMoved(0, 2));
        CHECK.same("improve()", 8, shop.improve());
        CHECK.same("order", "120", Shops.order(shop));

        // Only the order 201 takes 19; 012 takes 24.
        Flowforge last = Shops.of(2, Shops.row(5, 5), Shops.row(6, 4), Shops.row(1, 9));
        CHECK.same("improve() by moving the last job to the place 0", 5, last.improve());
        CHECK.same("order with the last job at the place 0", "201", Shops.order(last));

        CHECK.same("improve() where only blocking falls apart", 0, queued().improve());

        Flowforge all = seven();
        CHECK.same("improve() of 7 jobs with times 0", 0, all.improve());
        CHECK.same("order of 7 jobs with times 0", "0123456", Shops.order(all));
        all.setTime(0, 0, 99);
        all.setTime(6, 1, 99);
        CHECK.same("improve() of 7 jobs", 99, all.improve());
        CHECK.same("order of 7 jobs", "1234560", Shops.order(all));
    }

    private static void withoutJobs() {
        Flowforge shop = new Flowforge();
        CHECK.fails("jobAt(0) without jobs", INDEX, () -> shop.jobAt(0));
        CHECK.fails("move(0, 0) without jobs", INDEX, () -> shop.move(0, 0));
        CHECK.fails("makespanIfMoved(0, 0) without jobs", INDEX, () -> shop.makespanIfMoved(0, 0));
        CHECK.same("orderByRule() without jobs", 0, shop.orderByRule());
        CHECK.same("orderByInsertion() without jobs", 0, shop.orderByInsertion());
        CHECK.same("improve() without jobs", 0, shop.improve());
        shop.setMachines(3);
        CHECK.fails("orderByRule() without jobs, with 3 machines", STATE, shop::orderByRule);
    }

    private static void oneJob() {
        Flowforge shop = Shops.of(2, Shops.row(99, 98));
        CHECK.same("move(0, 0)", 0, shop.move(0, 0));
        CHECK.same("makespanIfMoved(0, 0)", 197, shop.makespanIfMoved(0, 0));
        CHECK.same("orderByRule()", 197, shop.orderByRule());
        CHECK.same("orderByInsertion()", 197, shop.orderByInsertion());
        CHECK.same("improve()", 0, shop.improve());
        CHECK.same("order", "0", Shops.order(shop));
    }
}
