/** Promises 1 to 7: a new object, addJob, setMachines, setTime, time, jobs, machines. */
final class TimesTest {
    private static final Class<IndexOutOfBoundsException> INDEX = IndexOutOfBoundsException.class;
    private static final Class<IllegalArgumentException> ARGUMENT = IllegalArgumentException.class;
    private static final Class<IllegalStateException> STATE = IllegalStateException.class;

    private static final Check CHECK = new Check("TimesTest");

    public static void main(String[] args) {
        newObject();
        jobsAreAdded();
        machinesAreSet();
        vanishedTimesAreZero();
        timesAreSet();
        wrongTimes();
        objectsAreApart();
        CHECK.end();
    }

    private static void newObject() {
        Flowforge shop = new Flowforge();
        CHECK.same("jobs() at first", 0, shop.jobs());
        CHECK.same("machines() at first", 2, shop.machines());
        CHECK.same("makespan(0) at first", 0, shop.makespan(0));
        CHECK.same("makespan(1) at first", 0, shop.makespan(1));
        CHECK.same("makespan(2) at first", 0, shop.makespan(2));
    }

    private static void jobsAreAdded() {
        Flowforge shop = new Flowforge();
        for (int job = 0; job < 7; job++) {
            CHECK.same("addJob()", job, shop.addJob());
            CHECK.same("jobs()", job + 1, shop.jobs());
            CHECK.same("jobAt(" + job + ")", job, shop.jobAt(job));
            CHECK.same("time(" + job + ", 0)", 0, shop.time(job, 0));
            CHECK.same("time(" + job + ", 1)", 0, shop.time(job, 1));
        }
        CHECK.fails("addJob() the eighth time", STATE, shop::addJob);
        CHECK.fails("addJob() the ninth time", STATE, shop::addJob);
        CHECK.same("jobs() behind them", 7, shop.jobs());
        CHECK.same("order behind them", "0123456", Shops.order(shop));

        Flowforge moved = Shops.of(2, Shops.row(1, 1), Shops.row(2, 2));
        moved.move(1, 0);
        CHECK.same("addJob() to an order that was changed", 2, moved.addJob());
        CHECK.same("order", "102", Shops.order(moved));
    }

    private static void machinesAreSet() {
        Flowforge shop = new Flowforge();
        int before = 2;
        for (int machines : new int[] {1, 5, 5, 3, 4, 2, 1}) {
            CHECK.same("setMachines(" + machines + ")", before, shop.setMachines(machines));
            CHECK.same("machines()", machines, shop.machines());
            before = machines;
        }
        for (int machines : new int[] {0, -1, 6, 7, Integer.MIN_VALUE, Integer.MAX_VALUE}) {
            CHECK.fails("setMachines(" + machines + ")", ARGUMENT, () -> shop.setMachines(machines));
            CHECK.same("machines() behind it", 1, shop.machines());
        }
    }

    private static void vanishedTimesAreZero() {
        Flowforge shop = Shops.of(5, Shops.row(11, 12, 13, 14, 15), Shops.row(21, 22, 23, 24, 25));
        CHECK.same("setMachines(3)", 5, shop.setMachines(3));
        CHECK.same("time(1, 2)", 23, shop.time(1, 2));
        CHECK.fails("time(1, 3)", INDEX, () -> shop.time(1, 3));
        CHECK.same("setMachines(5)", 3, shop.setMachines(5));
        for (int machine = 0; machine < 5; machine++) {
            CHECK.same("time(0, " + machine + ")", machine < 3 ? 11 + machine : 0, shop.time(0, machine));
            CHECK.same("time(1, " + machine + ")", machine < 3 ? 21 + machine : 0, shop.time(1, machine));
        }
        shop.setMachines(1);
        shop.setMachines(2);
        CHECK.same("time(0, 0)", 11, shop.time(0, 0));
        CHECK.same("time(0, 1)", 0, shop.time(0, 1));
        CHECK.same("time(1, 1)", 0, shop.time(1, 1));
        CHECK.same("makespan(0)", 32, shop.makespan(0));

        Flowforge full = new Flowforge();
        full.setMachines(5);
        for (int job = 0; job < 7; job++) {
            full.addJob();
            full.setTime(job, 4, 99);
        }
        CHECK.same("setMachines(4) with 7 jobs", 5, full.setMachines(4));
        CHECK.same("setMachines(5) with 7 jobs", 4, full.setMachines(5));
        for (int job = 0; job < 7; job++) {
            CHECK.same("time(" + job + ", 4)", 0, full.time(job, 4));
        }
    }

    private static void timesAreSet() {
        Flowforge shop = new Flowforge();
        shop.setMachines(5);
        for (int job = 0; job < 7; job++) {
            shop.addJob();
        }
        for (int job = 0; job < 7; job++) {
            for (int machine = 0; machine < 5; machine++) {
                CHECK.same("setTime", 0, shop.setTime(job, machine, 10 * job + machine));
            }
        }
        for (int job = 0; job < 7; job++) {
            for (int machine = 0; machine < 5; machine++) {
                CHECK.same("time", 10 * job + machine, shop.time(job, machine));
            }
        }
        CHECK.same("setTime(6, 4, 99)", 64, shop.setTime(6, 4, 99));
        CHECK.same("setTime(6, 4, 0)", 99, shop.setTime(6, 4, 0));
        CHECK.same("time(6, 4)", 0, shop.time(6, 4));
        CHECK.same("time(6, 3)", 63, shop.time(6, 3));
        CHECK.same("time(5, 4)", 54, shop.time(5, 4));

        Flowforge moved = Shops.of(2, Shops.row(1, 2), Shops.row(3, 4));
        moved.move(1, 0);
        CHECK.same("time(0, 1) goes by the job, not by its place", 2, moved.time(0, 1));
        CHECK.same("setTime(1, 0, 9)", 3, moved.setTime(1, 0, 9));
        CHECK.same("begin(0, 1, 0)", 9, moved.begin(0, 1, 0));
    }

    private static void wrongTimes() {
        Flowforge shop = Shops.of(3, Shops.row(1, 2, 3), Shops.row(4, 5, 6));
        String before = Shops.state(shop);
        for (int job : new int[] {-1, 2, 6, 7, Integer.MIN_VALUE, Integer.MAX_VALUE}) {
            CHECK.fails("time(" + job + ", 0)", INDEX, () -> shop.time(job, 0));
            CHECK.fails("setTime(" + job + ", 0, 5)", INDEX, () -> shop.setTime(job, 0, 5));
            CHECK.fails("setTime(" + job + ", 0, 100)", INDEX, () -> shop.setTime(job, 0, 100));
        }
        for (int machine : new int[] {-1, 3, 4, 5, Integer.MIN_VALUE, Integer.MAX_VALUE}) {
            CHECK.fails("time(0, " + machine + ")", INDEX, () -> shop.time(0, machine));
            CHECK.fails("setTime(0, " + machine + ", 5)", INDEX, () -> shop.setTime(0, machine, 5));
            CHECK.fails("setTime(0, " + machine + ", -1)", INDEX, () -> shop.setTime(0, machine, -1));
        }
        for (int time : new int[] {-1, 100, Integer.MIN_VALUE, Integer.MAX_VALUE}) {
            CHECK.fails("setTime(1, 2, " + time + ")", ARGUMENT, () -> shop.setTime(1, 2, time));
        }
        CHECK.same("state behind all that threw", before, Shops.state(shop));
        Flowforge empty = new Flowforge();
        CHECK.fails("time(0, 0) without jobs", INDEX, () -> empty.time(0, 0));
        CHECK.fails("setTime(0, 0, 100) without jobs", INDEX, () -> empty.setTime(0, 0, 100));
    }

    private static void objectsAreApart() {
        Flowforge one = Shops.of(2, Shops.row(1, 2));
        Flowforge other = Shops.of(3, Shops.row(7, 8, 9), Shops.row(1, 1, 1));
        CHECK.same("machines() of the one", 2, one.machines());
        CHECK.same("jobs() of the one", 1, one.jobs());
        CHECK.same("time(0, 0) of the one", 1, one.time(0, 0));
        CHECK.same("time(0, 0) of the other", 7, other.time(0, 0));
    }
}
