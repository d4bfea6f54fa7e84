import java.util.List;

/** Promises 1 to 7, sentence by sentence. */
final class TimeEdges {
    private static final int[] WRONG_MACHINES = {0, 6, -1, 7, Integer.MIN_VALUE, Integer.MAX_VALUE, 257, 65537, -255};
    private static final int[] WRONG_TIMES = {-1, 100, -99, 101, Integer.MIN_VALUE, Integer.MAX_VALUE, 256, 65536};

    private final Edges edges;

    TimeEdges(Edges edges) {
        this.edges = edges;
    }

    void run() {
        edges.under("Promise 1: A new object");
        edges.test("Creates a library without jobs and with two machines.", this::newObject);

        edges.under("Promise 2: addJob");
        edges.test("Adds a job.", this::jobIsAdded);
        edges.test("Returns its number.", this::addJobReturnsTheNumber);
        edges.test("Throws `IllegalStateException` if there are 7 jobs", this::eighthJobIsRefused);

        edges.under("Promise 3: setMachines");
        edges.test("Sets the number of machines.", this::machinesAreSet);
        edges.test("`machines`: 1 to 5", this::oneToFiveMachines);
        edges.test("Returns the number before.", this::setMachinesReturnsTheNumberBefore);
        edges.test("Throws `IllegalArgumentException` if machines is out of range", this::wrongMachinesAreRefused);

        edges.under("Promise 4: setTime");
        edges.test("Sets the time of a job on a machine.", this::oneTimeIsSet);
        edges.test("`job`: its number", this::setTimeOfFirstAndLastJob);
        edges.test("`machine`: its number", this::setTimeOnFirstAndLastMachine);
        edges.test("`time`: 0 to 99", this::leastAndGreatestTime);
        edges.test("Returns the time before.", this::setTimeReturnsTheTimeBefore);
        edges.test("Throws `IndexOutOfBoundsException` if there is no such job or no such machine",
            this::setTimeBesideTheTableIsRefused);
        edges.test("Throws `IllegalArgumentException` if time is out of range", this::wrongTimesAreRefused);

        edges.under("Promise 5: time");
        edges.test("Returns the time of a job on a machine.", this::eachTimeIsRead);
        edges.test("`job`: its number", this::timeOfFirstAndLastJob);
        edges.test("`machine`: its number", this::timeOnFirstAndLastMachine);
        edges.test("Returns the time.", this::timesOf0And99AreRead);
        edges.test("Throws `IndexOutOfBoundsException` if there is no such job or no such machine",
            this::timeBesideTheTableIsRefused);

        edges.under("Promise 6: jobs");
        edges.test("Returns the number of jobs.", this::jobsAreCounted);

        edges.under("Promise 7: machines");
        edges.test("Returns the number of machines.", this::machinesAreCounted);
    }

    /** 7 jobs, whose times are 0. */
    static Flowforge seven(int machines) {
        Flowforge shop = new Flowforge();
        shop.setMachines(machines);
        for (int job = 0; job < 7; job++) {
            shop.addJob();
        }
        return shop;
    }

    /** 7 jobs on 5 machines; 10 times the job plus the machine is the time. */
    private static Flowforge numbered() {
        Flowforge shop = seven(5);
        for (int job = 0; job < 7; job++) {
            for (int machine = 0; machine < 5; machine++) {
                shop.setTime(job, machine, 10 * job + machine);
            }
        }
        return shop;
    }

    /** 3 jobs on 5 machines, few enough to ask all twice within 512 calls. */
    static Flowforge unasked() {
        Flowforge shop = Shops.of(5, Shops.row(9, 2, 4, 7, 1), Shops.row(1, 5, 2, 0, 8), Shops.row(4, 1, 3, 9, 9));
        shop.move(2, 0);
        return shop;
    }

    /** The same, but all has been asked, so that an answer that is kept too long shows. */
    static Flowforge asked() {
        Flowforge shop = unasked();
        Answers.all(shop);
        return shop;
    }

    private void newObject() {
        Flowforge shop = new Flowforge();
        edges.same("jobs()", 0, shop.jobs());
        edges.same("machines()", 2, shop.machines());
        edges.same("the machine 1 is there", 0, shop.machineBound(1));
        edges.fails("machineBound(2)", Edges.INDEX, () -> shop.machineBound(2));
        edges.fails("time(0, 0)", Edges.INDEX, () -> shop.time(0, 0));
        edges.fails("jobAt(0)", Edges.INDEX, () -> shop.jobAt(0));
        edges.same("orderByRule(), which asks for 2 machines", 0, shop.orderByRule());
        edges.same("bestOrders(0)", 1, shop.bestOrders(0));
        edges.same("addJob()", 0, shop.addJob());
        edges.same("jobs() of another new object", 0, new Flowforge().jobs());
    }

    private void jobIsAdded() {
        Flowforge shop = new Flowforge();
        for (int job = 0; job < 7; job++) {
            int added = job;
            edges.fails("time(" + job + ", 0) before", Edges.INDEX, () -> shop.time(added, 0));
            shop.addJob();
            edges.same("jobs()", job + 1, shop.jobs());
            edges.same("time(" + job + ", 0)", 0, shop.time(job, 0));
            edges.same("time(" + job + ", 1)", 0, shop.time(job, 1));
            edges.same("jobAt(" + job + ")", job, shop.jobAt(job));
        }
        Flowforge asked = asked();
        asked.addJob();
        edges.asNew("addJob()", asked);
    }

    private void addJobReturnsTheNumber() {
        Flowforge shop = new Flowforge();
        for (int job = 0; job < 7; job++) {
            edges.same("addJob()", job, shop.addJob());
            // The number does not go by the order, nor by the machines.
            shop.move(job, 0);
            shop.setMachines(1 + job % 5);
        }
    }

    private void eighthJobIsRefused() {
        edges.refused("addJob()", Edges.STATE, Sample.SEVEN_JOBS_FIVE_MACHINES, Flowforge::addJob);
        edges.refused("addJob()", Edges.STATE, Sample.SEVEN_JOBS_TWO_MACHINES, Flowforge::addJob);
        for (int machines = 1; machines <= 5; machines++) {
            Flowforge shop = seven(machines);
            for (int i = 0; i < 3; i++) {
                edges.fails("addJob() with 7 jobs on " + machines + " machines", Edges.STATE, shop::addJob);
            }
            edges.same("jobs()", 7, shop.jobs());
            edges.same("order", "0123456", Shops.order(shop));
            edges.fails("time(7, 0)", Edges.INDEX, () -> shop.time(7, 0));
        }
    }

    private void machinesAreSet() {
        for (int from = 1; from <= 5; from++) {
            for (int to = 1; to <= 5; to++) {
                int count = to;
                Flowforge shop = Shops.of(from, Shops.row(7));
                shop.setMachines(to);
                edges.same("machines()", to, shop.machines());
                edges.same("machineBound of the last machine of " + to, 7, shop.machineBound(to - 1));
                edges.fails("machineBound(" + to + ") of " + to, Edges.INDEX, () -> shop.machineBound(count));
                edges.fails("time(0, " + to + ") of " + to, Edges.INDEX, () -> shop.time(0, count));
                edges.same("makespan(0)", 7, shop.makespan(0));
            }
        }
        Flowforge moved = Shops.of(5, Shops.row(1, 2, 3, 4, 5), Shops.row(6, 7, 8, 9, 10));
        moved.move(1, 0);
        moved.setMachines(1);
        edges.same("the order of another number of machines", "10", Shops.order(moved));
        for (int machines = 1; machines <= 5; machines++) {
            Flowforge asked = asked();
            asked.setMachines(machines);
            edges.asNew("setMachines(" + machines + ")", asked);
        }
    }

    private void oneToFiveMachines() {
        for (int machines = 1; machines <= 5; machines++) {
            Flowforge empty = new Flowforge();
            empty.setMachines(machines);
            edges.same("machines() without jobs", machines, empty.machines());
            Flowforge full = seven(2);
            full.setMachines(machines);
            edges.same("machines() with 7 jobs", machines, full.machines());
        }
    }

    private void setMachinesReturnsTheNumberBefore() {
        for (int from = 1; from <= 5; from++) {
            for (int to = 1; to <= 5; to++) {
                Flowforge shop = new Flowforge();
                edges.same("setMachines(" + from + ") of a new object", 2, shop.setMachines(from));
                edges.same("setMachines(" + to + ")", from, shop.setMachines(to));
                edges.same("setMachines(" + to + ") again", to, shop.setMachines(to));
            }
        }
    }

    private void wrongMachinesAreRefused() {
        for (Sample sample : Sample.ALL) {
            for (int machines : WRONG_MACHINES) {
                edges.refused("setMachines(" + machines + ")", Edges.ARGUMENT, sample, shop -> shop.setMachines(machines));
            }
        }
    }

    private void oneTimeIsSet() {
        for (int cell = 0; cell < 35; cell++) {
            Flowforge shop = seven(5);
            shop.setTime(cell / 5, cell % 5, 50);
            for (int other = 0; other < 35; other++) {
                edges.same("time(" + other / 5 + ", " + other % 5 + ") behind setTime(" + cell / 5 + ", " + cell % 5 + ", 50)",
                    other == cell ? 50 : 0, shop.time(other / 5, other % 5));
            }
            edges.same("makespan(0)", 50, shop.makespan(0));
        }
        Flowforge known = Shops.of(2, Shops.row(1, 2));
        edges.same("best(0) before", 3, known.best(0));
        known.setTime(0, 1, 9);
        edges.same("best(0) behind setTime(0, 1, 9)", 10, known.best(0));
        for (int time : new int[] {0, 99}) {
            Flowforge asked = asked();
            asked.setTime(1, 4, time);
            edges.asNew("setTime(1, 4, " + time + ")", asked);
        }
    }

    private void setTimeOfFirstAndLastJob() {
        Flowforge shop = seven(2);
        shop.move(6, 0);
        edges.same("setTime(0, 0, 8)", 0, shop.setTime(0, 0, 8));
        edges.same("setTime(6, 0, 9)", 0, shop.setTime(6, 0, 9));
        edges.same("begin(0, 1, 0): the job 6 stands at the place 0", 9, shop.begin(0, 1, 0));
        Flowforge one = Shops.of(1, Shops.row(4));
        edges.same("setTime(0, 0, 5) of the only job", 4, one.setTime(0, 0, 5));
    }

    private void setTimeOnFirstAndLastMachine() {
        for (int machines = 1; machines <= 5; machines++) {
            Flowforge shop = seven(machines);
            edges.same("setTime(3, 0, 8)", 0, shop.setTime(3, 0, 8));
            edges.same("setTime(3, " + (machines - 1) + ", 9)", machines == 1 ? 8 : 0, shop.setTime(3, machines - 1, 9));
            edges.same("makespan(0)", machines == 1 ? 9 : 17, shop.makespan(0));
        }
    }

    private void leastAndGreatestTime() {
        for (int time : new int[] {0, 1, 98, 99}) {
            Flowforge shop = Shops.of(1, Shops.row(50));
            edges.same("setTime(0, 0, " + time + ")", 50, shop.setTime(0, 0, time));
            edges.same("time(0, 0)", time, shop.time(0, 0));
            edges.same("makespan(0)", time, shop.makespan(0));
        }
    }

    private void setTimeReturnsTheTimeBefore() {
        Flowforge shop = numbered();
        edges.same("setTime(6, 4, 0)", 64, shop.setTime(6, 4, 0));
        edges.same("setTime(6, 4, 99)", 0, shop.setTime(6, 4, 99));
        edges.same("setTime(6, 4, 99) again", 99, shop.setTime(6, 4, 99));
        edges.same("setTime(0, 0, 1)", 0, shop.setTime(0, 0, 1));
        edges.fails("setTime(0, 0, 100)", Edges.ARGUMENT, () -> shop.setTime(0, 0, 100));
        edges.same("setTime(0, 0, 2) behind one that was refused", 1, shop.setTime(0, 0, 2));
        shop.setMachines(4);
        shop.setMachines(5);
        edges.same("setTime(6, 4, 5) behind fewer machines and more again", 0, shop.setTime(6, 4, 5));
        edges.same("setTime(6, 3, 5) behind fewer machines and more again", 63, shop.setTime(6, 3, 5));
    }

    private void setTimeBesideTheTableIsRefused() {
        for (int time : new int[] {0, 99, -1, 100}) {
            edges.refusedOutside("setTime(%, 0, " + time + ")", Edges.INDEX, Room.JOB, Sample.ALL,
                (shop, job) -> shop.setTime(job, 0, time));
            edges.refusedOutside("setTime(0, %, " + time + ")", Edges.INDEX, Room.MACHINE, Sample.ALL,
                (shop, machine) -> shop.setTime(0, machine, time));
        }
        edges.refusedOutside("setTime(%, last machine, 5)", Edges.INDEX, Room.JOB, Sample.WITH_JOBS,
            (shop, job) -> shop.setTime(job, shop.machines() - 1, 5));
        edges.refusedOutside("setTime(last job, %, 5)", Edges.INDEX, Room.MACHINE, Sample.WITH_JOBS,
            (shop, machine) -> shop.setTime(shop.jobs() - 1, machine, 5));
        edges.refusedOutside("setTime(%, -1, 5)", Edges.INDEX, Room.JOB, Sample.ALL, (shop, job) -> shop.setTime(job, -1, 5));
        edges.refusedOutside("setTime(%, 5, 100)", Edges.INDEX, Room.JOB, Sample.ALL, (shop, job) -> shop.setTime(job, 5, 100));
    }

    private void wrongTimesAreRefused() {
        for (Sample sample : Sample.WITH_JOBS) {
            for (int time : WRONG_TIMES) {
                edges.refused("setTime(0, 0, " + time + ")", Edges.ARGUMENT, sample, shop -> shop.setTime(0, 0, time));
                edges.refused("setTime(last, last, " + time + ")", Edges.ARGUMENT, sample,
                    shop -> shop.setTime(shop.jobs() - 1, shop.machines() - 1, time));
            }
        }
    }

    private void eachTimeIsRead() {
        Flowforge shop = numbered();
        shop.move(6, 0);
        for (int job = 0; job < 7; job++) {
            for (int machine = 0; machine < 5; machine++) {
                edges.same("time(" + job + ", " + machine + ")", 10 * job + machine, shop.time(job, machine));
            }
        }
    }

    private void timeOfFirstAndLastJob() {
        Flowforge shop = Shops.of(2, Shops.row(1, 2), Shops.row(3, 4), Shops.row(5, 6));
        shop.move(2, 0);
        edges.same("time(0, 0), whatever its place", 1, shop.time(0, 0));
        edges.same("time(2, 1), whatever its place", 6, shop.time(2, 1));
        edges.same("time(6, 0) of 7 jobs", 60, numbered().time(6, 0));
        edges.same("time(0, 0) of one job", 99, Sample.ONE_JOB.make().time(0, 0));
    }

    private void timeOnFirstAndLastMachine() {
        edges.same("time(2, 0) of 5 machines", 20, numbered().time(2, 0));
        edges.same("time(2, 4) of 5 machines", 24, numbered().time(2, 4));
        edges.same("time(2, 0) of one machine", 99, Sample.ONE_MACHINE.make().time(2, 0));
    }

    private void timesOf0And99AreRead() {
        Flowforge shop = Sample.SEVEN_JOBS_TWO_MACHINES.make();
        edges.same("time(5, 0)", 0, shop.time(5, 0));
        edges.same("time(5, 1)", 99, shop.time(5, 1));
        edges.same("time(6, 0)", 99, shop.time(6, 0));
        edges.same("time(6, 1)", 0, shop.time(6, 1));
    }

    private void timeBesideTheTableIsRefused() {
        edges.refusedOutside("time(%, 0)", Edges.INDEX, Room.JOB, Sample.ALL, (shop, job) -> shop.time(job, 0));
        edges.refusedOutside("time(0, %)", Edges.INDEX, Room.MACHINE, Sample.ALL, (shop, machine) -> shop.time(0, machine));
        edges.refusedOutside("time(%, last machine)", Edges.INDEX, Room.JOB, Sample.ALL,
            (shop, job) -> shop.time(job, shop.machines() - 1));
        edges.refusedOutside("time(last job, %)", Edges.INDEX, Room.MACHINE, Sample.ALL,
            (shop, machine) -> shop.time(shop.jobs() - 1, machine));
        edges.refusedOutside("time(%, %)", Edges.INDEX, Room.JOB, Sample.ALL, (shop, both) -> shop.time(both, both));
    }

    private void jobsAreCounted() {
        Flowforge shop = new Flowforge();
        edges.same("jobs() without jobs", 0, shop.jobs());
        for (int count = 1; count <= 7; count++) {
            shop.addJob();
            edges.same("jobs()", count, shop.jobs());
            edges.same("jobs() again", count, shop.jobs());
        }
        edges.fails("addJob()", Edges.STATE, shop::addJob);
        edges.same("jobs() behind the eighth", 7, shop.jobs());
    }

    private void machinesAreCounted() {
        Flowforge shop = new Flowforge();
        edges.same("machines() at first", 2, shop.machines());
        for (int count : List.of(1, 5, 2)) {
            shop.setMachines(count);
            edges.same("machines()", count, shop.machines());
            edges.fails("setMachines(6)", Edges.ARGUMENT, () -> shop.setMachines(6));
            edges.fails("setMachines(0)", Edges.ARGUMENT, () -> shop.setMachines(0));
            edges.same("machines() behind 6 and 0", count, shop.machines());
        }
    }
}
