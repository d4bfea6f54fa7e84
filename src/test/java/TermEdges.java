import java.util.Arrays;
import java.util.List;

/** The sentences of "What it is" and of "Terms". */
final class TermEdges {
    private final Edges edges;

    TermEdges(Edges edges) {
        this.edges = edges;
    }

    void run() {
        edges.under("What it is");
        edges.test("An object is used for at most 512 calls after it has been made; what later calls answer is free.",
            this::the512thCall);

        edges.under("Terms");
        edges.test("Jobs go through all machines in the same order of machines, and all machines work on the jobs in the "
            + "same order of jobs.", this::sameOrders);
        edges.test("Times are entered, one order of the jobs is kept, and that order can be tried, changed job by job, "
            + "built by the rule for two machines or by insertion, and improved step by step; lower bounds and a best "
            + "order tell how good it is.", this::boundsTellHowGoodItIs);
        edges.test("There are three variants: with room for waiting jobs between the machines, without such room "
            + "(blocking), and without any waiting of a job (no-wait).", this::threeVariants);
        runOfTheJobs();
        runOfTheVariants();
        runOfTheHeads();
        edges.test("One order comes before another one if at the first place at which they differ it has the job with the "
            + "lower number.", this::comparedOrders);
        edges.test("A method that throws an exception changes nothing.", this::throwingChangesNothing);
        edges.test("If several exceptions apply, the one that is documented first is thrown.", this::firstExceptionCounts);
    }

    private void runOfTheJobs() {
        edges.test("There are at most 7 jobs, numbered from 0 in the order in which they were added.", this::sevenJobs);
        edges.test("There are 1 to 5 machines, 2 at first, numbered from 0.", this::fiveMachines);
        edges.test("Each job has a time on each machine, which is 0 at first.", this::timesAre0AtFirst);
        edges.test("If the number of machines becomes less, the times on the machines that vanish become 0.",
            this::vanishedTimesAre0);
        edges.test("The order is a permutation of all jobs; its places are numbered from 0.", this::permutation);
        edges.test("A job that is added stands at the end.", this::addedAtTheEnd);
    }

    private void runOfTheVariants() {
        edges.test("In each variant, a job begins on the machine 0 first, and each machine works on one job at a time, in "
            + "the order.", this::oneJobAtATime);
        edges.test("0, plain: a job begins on a machine as soon as it has ended on the machine before and the job at the "
            + "place before has ended on this machine.", this::plain);
        edges.test("1, blocking: a job stays on a machine when it has ended there until it begins on the next machine; on "
            + "the last machine it does not stay.", this::blockingStays);
        edges.test("A job begins on a machine as soon as it has ended on the machine before and the job at the place "
            + "before does not work or stay on this machine any more.", this::blockingBegins);
        edges.test("2, no-wait: a job begins on each machine but the first one at the moment at which it ends on the "
            + "machine before; it begins on the machine 0 as early as it can, so that on no machine it begins before the "
            + "job at the place before has ended there, and not before 0.", this::noWait);
        edges.test("In all variants the job at the place 0 begins at 0.", this::beginsAt0);
        edges.test("The makespan is the moment at which the last job ends on the last machine, 0 if there are no jobs.",
            this::makespanIsTheLastEnd);
        edges.test("An operation with the time 0 is like any other: it waits as others do, and it begins and ends at the "
            + "same moment.", this::operationsOfTime0);
    }

    private void runOfTheHeads() {
        edges.test("Heads and tails belong to the plain variant.", this::headsAndTailsArePlain);
        edges.test("The head of a place and a machine is the moment at which the job at this place ends on this machine.",
            this::headIsTheEnd);
        edges.test("The tail is the time from the moment at which it begins there to the end of the whole schedule, at "
            + "least, if everything behind it is as tight as possible: it is its time there plus the greater one of the "
            + "tail of the same place on the next machine and the tail of the next place on the same machine, where a "
            + "tail that does not exist counts as 0.", this::tailsOfTheEdges);
        edges.test("An operation is critical if its head plus its tail minus its time there is the makespan.",
            this::criticalByHeadAndTail);
    }

    private void the512thCall() {
        // It is made by 1 + 7 + 35 + 7 calls.
        Flowforge shop = Sample.SEVEN_JOBS_FIVE_MACHINES.make();
        for (int call = 51; call < 512; call++) {
            edges.fails("addJob(), the call " + call, Edges.STATE, shop::addJob);
        }
        edges.same("best(2), the call 512", Model.of(Sample.SEVEN_JOBS_FIVE_MACHINES.make()).best(2).makespan, shop.best(2));
        // It is made by 3 calls.
        Flowforge times = Shops.of(1, Shops.row(3));
        for (int call = 4; call <= 512; call++) {
            edges.same("setTime, the call " + call, (call - 1) % 100, times.setTime(0, 0, call % 100));
        }
    }

    private void sameOrders() {
        for (Sample sample : Sample.WITH_JOBS) {
            Flowforge shop = sample.make();
            int jobs = shop.jobs();
            int machines = shop.machines();
            for (int variant = 0; variant < 3; variant++) {
                for (int place = 0; place < jobs; place++) {
                    for (int machine = 0; machine < machines; machine++) {
                        int begin = shop.begin(variant, place, machine);
                        String where = "begin(" + variant + ", " + place + ", " + machine + ") of " + sample + " is not too early";
                        edges.same(where, true, machine == 0 || begin >= end(shop, variant, place, machine - 1));
                        edges.same(where, true, place == 0 || begin >= end(shop, variant, place - 1, machine));
                    }
                }
                shop = sample.make();
            }
        }
    }

    private static int end(Flowforge shop, int variant, int place, int machine) {
        return shop.begin(variant, place, machine) + shop.time(shop.jobAt(place), machine);
    }

    private void boundsTellHowGoodItIs() {
        for (Sample sample : Sample.ALL) {
            Flowforge shop = sample.make();
            int machines = shop.machines();
            for (int machine = 0; machine < machines; machine++) {
                edges.same("machineBound(" + machine + ") is not above best(0) of " + sample, true,
                    shop.machineBound(machine) <= shop.best(0));
                for (int second = machine + 1; second < machines; second++) {
                    edges.same("pairBound(" + machine + ", " + second + ") is not above best(0) of " + sample, true,
                        shop.pairBound(machine, second) <= shop.best(0));
                }
            }
            for (int variant = 0; variant < 3; variant++) {
                edges.same("best(" + variant + ") is not above the makespan of " + sample, true,
                    shop.best(variant) <= shop.makespan(variant));
            }
            edges.same("improve() does not make the order worse than it was", true, shop.improve() >= 0);
        }
        edges.same("another answer once all has been asked", "",
            Answers.difference(Answers.all(TimeEdges.unasked()), Answers.all(TimeEdges.asked())));
        edges.same("machineBound(0) of one machine is what is best", 103, Sample.ONE_MACHINE.make().machineBound(0));
        Flowforge two = Sample.SEVEN_JOBS_TWO_MACHINES.make();
        edges.same("pairBound(0, 1) of two machines is what the rule reaches", two.pairBound(0, 1), two.orderByRule());
    }

    private void threeVariants() {
        for (int variant = 0; variant < 3; variant++) {
            edges.same("makespan(" + variant + ")", 14 + variant, ScheduleEdges.waiting().makespan(variant));
        }
        edges.fails("makespan(-1)", Edges.ARGUMENT, () -> ScheduleEdges.waiting().makespan(-1));
        edges.fails("makespan(3)", Edges.ARGUMENT, () -> ScheduleEdges.waiting().makespan(3));
    }

    private void sevenJobs() {
        Flowforge shop = new Flowforge();
        for (int job = 0; job < 7; job++) {
            edges.same("addJob()", job, shop.addJob());
        }
        edges.fails("addJob() the eighth time", Edges.STATE, shop::addJob);
        edges.same("jobs()", 7, shop.jobs());
        edges.same("time(6, 0)", 0, shop.time(6, 0));
        edges.fails("time(7, 0)", Edges.INDEX, () -> shop.time(7, 0));
    }

    private void fiveMachines() {
        Flowforge shop = Shops.of(2, Shops.row(5, 6));
        edges.same("setMachines(1)", 2, shop.setMachines(1));
        edges.same("time(0, 0) of one machine", 5, shop.time(0, 0));
        edges.fails("time(0, 1) of one machine", Edges.INDEX, () -> shop.time(0, 1));
        edges.same("setMachines(5)", 1, shop.setMachines(5));
        edges.same("time(0, 4) of 5 machines", 0, shop.time(0, 4));
        edges.fails("time(0, 5) of 5 machines", Edges.INDEX, () -> shop.time(0, 5));
        edges.fails("setMachines(0)", Edges.ARGUMENT, () -> shop.setMachines(0));
        edges.fails("setMachines(6)", Edges.ARGUMENT, () -> shop.setMachines(6));
        edges.same("machines()", 5, shop.machines());
    }

    private void timesAre0AtFirst() {
        for (int machines = 1; machines <= 5; machines++) {
            Flowforge before = TimeEdges.seven(machines);
            before.setMachines(5);
            for (int cell = 0; cell < 35; cell++) {
                edges.same("time(" + cell / 5 + ", " + cell % 5 + ")", 0, before.time(cell / 5, cell % 5));
            }
        }
        Flowforge beside = Shops.of(2, Shops.row(99, 99));
        int job = beside.addJob();
        edges.same("time of a job beside another one", 0, beside.time(job, 0));
        edges.same("makespan(0) of a job beside another one", 198, beside.makespan(0));
    }

    private void vanishedTimesAre0() {
        for (int fewer = 1; fewer <= 5; fewer++) {
            Flowforge shop = Sample.SEVEN_JOBS_FIVE_MACHINES.make();
            shop.setMachines(fewer);
            shop.setMachines(5);
            Flowforge whole = Sample.SEVEN_JOBS_FIVE_MACHINES.make();
            for (int cell = 0; cell < 35; cell++) {
                int job = cell / 5;
                int machine = cell % 5;
                edges.same("time(" + job + ", " + machine + ") behind " + fewer + " machines",
                    machine < fewer ? whole.time(job, machine) : 0, shop.time(job, machine));
            }
        }
        Flowforge steps = Shops.of(5, Shops.row(1, 2, 4, 8, 16));
        int[] machines = {4, 5, 3, 4, 2, 5, 1, 2};
        int[] makespans = {15, 15, 7, 7, 3, 3, 1, 1};
        for (int i = 0; i < machines.length; i++) {
            steps.setMachines(machines[i]);
            edges.same("makespan(0) behind setMachines(" + machines[i] + ")", makespans[i], steps.makespan(0));
            edges.same("best(0) behind setMachines(" + machines[i] + ")", makespans[i], steps.best(0));
            edges.same("machineBound(0) behind setMachines(" + machines[i] + ")", makespans[i], steps.machineBound(0));
        }
        Flowforge added = Shops.of(5, Shops.row(1, 2, 4, 8, 16));
        added.setMachines(1);
        added.addJob();
        added.setTime(1, 0, 32);
        added.setMachines(5);
        edges.same("makespan(0) with a job that was added meanwhile", 33, added.makespan(0));
        edges.same("tail(0, 0) with a job that was added meanwhile", 33, added.tail(0, 0));
        for (int fewer = 1; fewer <= 4; fewer++) {
            Flowforge asked = TimeEdges.asked();
            asked.setMachines(fewer);
            asked.setMachines(5);
            edges.asNew("setMachines(" + fewer + "), setMachines(5)", asked);
        }
    }

    private void permutation() {
        for (Sample sample : Sample.ALL) {
            Flowforge shop = sample.make();
            String jobs = "0123456".substring(0, shop.jobs());
            edges.same("jobs of the order of " + sample, jobs, sorted(shop));
            shop.improve();
            edges.same("jobs of the order behind improve()", jobs, sorted(shop));
            shop.orderByInsertion();
            edges.same("jobs of the order behind orderByInsertion()", jobs, sorted(shop));
            shop.setMachines(2);
            shop.orderByRule();
            edges.same("jobs of the order behind orderByRule()", jobs, sorted(shop));
            edges.fails("jobAt(-1)", Edges.INDEX, () -> shop.jobAt(-1));
            edges.fails("jobAt(" + jobs.length() + ")", Edges.INDEX, () -> shop.jobAt(jobs.length()));
        }
    }

    private static String sorted(Flowforge shop) {
        char[] jobs = Shops.order(shop).toCharArray();
        Arrays.sort(jobs);
        return new String(jobs);
    }

    private void addedAtTheEnd() {
        Flowforge shop = new Flowforge();
        String[] orders = {"0", "01", "012", "2013", "32014", "432015", "5432016"};
        for (int job = 0; job < 7; job++) {
            shop.addJob();
            edges.same("order with the job " + job, orders[job], Shops.order(shop));
            if (job > 1) {
                shop.move(job, 0);
            }
        }
        Flowforge sorted = Shops.of(2, Shops.row(9, 1), Shops.row(1, 9));
        sorted.orderByRule();
        sorted.addJob();
        edges.same("order behind orderByRule()", "102", Shops.order(sorted));
        sorted.orderByInsertion();
        sorted.addJob();
        edges.same("place of the job behind orderByInsertion()", 3, sorted.jobAt(3));
        sorted.improve();
        sorted.addJob();
        edges.same("place of the job behind improve()", 4, sorted.jobAt(4));
    }

    private void oneJobAtATime() {
        // The job 1 could begin on the machine 1 long before the job 0, but stands behind it.
        Flowforge shop = Shops.of(2, Shops.row(50, 5), Shops.row(0, 5));
        edges.same("plain begins", "0 50 | 50 55", Shops.begins(shop, 0));
        edges.same("blocking begins", "0 50 | 50 55", Shops.begins(shop, 1));
        edges.same("no-wait begins", "0 50 | 55 55", Shops.begins(shop, 2));
        for (int variant = 0; variant < 3; variant++) {
            edges.same("begins of variant " + variant + " on one machine", "0 | 0 | 99",
                Shops.begins(Sample.ONE_MACHINE.make(), variant));
        }
    }

    private void plain() {
        edges.same("begins", "0 1 2 | 1 2 11 | 2 3 12 | 3 12 13", Shops.begins(OrderEdges.queued(), 0));
        edges.same("begins of one job", "0 99", Shops.begins(Sample.ONE_JOB.make(), 0));
        // The machine before and the place before end at the same moment, and a moment apart either way.
        edges.same("begins at equal ends", "0 5 | 5 10", Shops.begins(Shops.of(2, Shops.row(5, 5), Shops.row(5, 5)), 0));
        edges.same("begins if the machine before ends later", "0 5 | 5 11",
            Shops.begins(Shops.of(2, Shops.row(5, 5), Shops.row(6, 5)), 0));
        edges.same("begins if the place before ends later", "0 5 | 5 10",
            Shops.begins(Shops.of(2, Shops.row(5, 5), Shops.row(4, 5)), 0));
    }

    private void blockingStays() {
        // The job 1 stays on the machine 1 until the job 0 has left the machine 2, and so on up to the machine 0.
        edges.same("begins", "0 1 2 | 1 2 11 | 2 11 20 | 11 20 21", Shops.begins(OrderEdges.queued(), 1));
        edges.same("begins behind a last machine on which no job stays", "0 1 | 1 3 | 3 7",
            Shops.begins(Shops.of(2, Shops.row(1, 2), Shops.row(1, 4), Shops.row(1, 1)), 1));
        edges.same("begins of one machine, the last one", "0 | 4 | 4",
            Shops.begins(Shops.of(1, Shops.row(4), Shops.row(0), Shops.row(9)), 1));
        edges.same("begins of one job", "0 99", Shops.begins(Sample.ONE_JOB.make(), 1));
    }

    private void blockingBegins() {
        edges.same("begins", "0 3 7 | 3 7 9 | 7 9 13", Shops.begins(ScheduleEdges.waiting(), 1));
        // The job 0 ends on the machine 0 at 1 and goes on at once, so the job 1 need not wait.
        edges.same("begins if no job stays", "0 1 | 1 2", Shops.begins(Shops.of(2, Shops.row(1, 1), Shops.row(1, 1)), 1));
        edges.same("begins if a job stays for a moment", "0 1 | 1 3 | 3 4",
            Shops.begins(Shops.of(2, Shops.row(1, 2), Shops.row(1, 1), Shops.row(1, 1)), 1));
    }

    private void noWait() {
        edges.same("begins", "0 3 7 | 5 8 9 | 8 10 14", Shops.begins(ScheduleEdges.waiting(), 2));
        // On each machine in turn the job before is what alone holds up the job 1.
        edges.same("begins held up on the machine 0", "0 9 10 | 9 12 13",
            Shops.begins(Shops.of(3, Shops.row(9, 1, 1), Shops.row(3, 1, 1)), 2));
        edges.same("begins held up on the machine 1", "0 1 10 | 9 10 13",
            Shops.begins(Shops.of(3, Shops.row(1, 9, 1), Shops.row(1, 3, 1)), 2));
        edges.same("begins held up on the machine 2", "0 1 2 | 9 10 11",
            Shops.begins(Shops.of(3, Shops.row(1, 1, 9), Shops.row(1, 1, 1)), 2));
        // If only the machine 1 counted, the job 1 would begin 4 moments before 0.
        edges.same("begins not before 0", "0 0 1 | 0 5 10", Shops.begins(Shops.of(3, Shops.row(0, 1, 0), Shops.row(5, 5, 5)), 2));
        edges.same("begins of one job", "0 99", Shops.begins(Sample.ONE_JOB.make(), 2));
    }

    private void beginsAt0() {
        for (Sample sample : Sample.WITH_JOBS) {
            for (int variant = 0; variant < 3; variant++) {
                Flowforge shop = sample.make();
                edges.same("begin(" + variant + ", 0, 0) of " + sample, 0, shop.begin(variant, 0, 0));
                shop.move(shop.jobAt(0), shop.jobs() - 1);
                edges.same("begin(" + variant + ", 0, 0) of another order of " + sample, 0, shop.begin(variant, 0, 0));
            }
        }
    }

    private void makespanIsTheLastEnd() {
        for (int variant = 0; variant < 3; variant++) {
            edges.same("makespan(" + variant + ") without jobs", 0, new Flowforge().makespan(variant));
            edges.same("makespan(" + variant + ") without jobs on 5 machines", 0,
                Sample.NO_JOBS_FIVE_MACHINES.make().makespan(variant));
            for (Sample sample : Sample.WITH_JOBS) {
                Flowforge shop = sample.make();
                edges.same("makespan(" + variant + ") of " + sample, end(shop, variant, shop.jobs() - 1, shop.machines() - 1),
                    shop.makespan(variant));
            }
        }
    }

    private void operationsOfTime0() {
        Flowforge shop = Shops.of(3, Shops.row(0, 0, 5), Shops.row(0, 0, 0), Shops.row(2, 0, 0));
        edges.same("plain begins", "0 0 0 | 0 0 5 | 0 2 5", Shops.begins(shop, 0));
        edges.same("blocking begins", "0 0 0 | 0 0 5 | 0 5 5", Shops.begins(shop, 1));
        edges.same("no-wait begins", "0 0 0 | 5 5 5 | 5 7 7", Shops.begins(shop, 2));
        edges.same("head(1, 2), where it begins and ends", 5, shop.head(1, 2));
        edges.same("totalTime()", 5 + 5 + 5, shop.totalTime());
        // A job without any time stays as long as others do.
        Flowforge blocked = Shops.of(2, Shops.row(0, 9), Shops.row(0, 0), Shops.row(0, 0));
        edges.same("blocking begins behind a time of 9", "0 0 | 0 9 | 9 9", Shops.begins(blocked, 1));
    }

    private void headsAndTailsArePlain() {
        Flowforge shop = ScheduleEdges.waiting();
        shop.makespan(2);
        shop.begin(1, 0, 0);
        edges.same("head(2, 0)", 8, shop.head(2, 0));
        edges.same("head(2, 2)", 14, shop.head(2, 2));
        edges.same("tail(0, 0)", 14, shop.tail(0, 0));
        edges.same("tail(1, 0)", 11, shop.tail(1, 0));
        edges.same("isCritical(2, 2), by the plain makespan", true, shop.isCritical(2, 2));
    }

    private void headIsTheEnd() {
        for (Sample sample : Sample.WITH_JOBS) {
            Flowforge shop = sample.make();
            for (int place : Room.PLACE.inside(shop)) {
                for (int machine : Room.MACHINE.inside(shop)) {
                    edges.same("head(" + place + ", " + machine + ") of " + sample, end(shop, 0, place, machine),
                        shop.head(place, machine));
                }
            }
        }
    }

    private void tailsOfTheEdges() {
        for (Sample sample : Sample.WITH_JOBS) {
            Flowforge shop = sample.make();
            int place = shop.jobs() - 1;
            int machine = shop.machines() - 1;
            edges.same("the last tail of " + sample + ", its time", shop.time(shop.jobAt(place), machine), shop.tail(place, machine));
            edges.same("the first tail of " + sample + ", the makespan", shop.makespan(0), shop.tail(0, 0));
        }
        Flowforge shop = Shops.of(2, Shops.row(1, 7), Shops.row(2, 4));
        edges.same("tail(1, 0), behind which is no place", 2 + 4, shop.tail(1, 0));
        edges.same("tail(0, 1), behind which is no machine", 7 + 4, shop.tail(0, 1));
        edges.same("tail(0, 0), the next machine being greater", 1 + 11, shop.tail(0, 0));
        Flowforge other = Shops.of(2, Shops.row(1, 1), Shops.row(9, 4));
        edges.same("tail(0, 0), the next place being greater", 1 + 13, other.tail(0, 0));
        Flowforge equal = Shops.of(2, Shops.row(1, 2), Shops.row(2, 4));
        edges.same("tail(0, 0), both being equal", 1 + 6, equal.tail(0, 0));
    }

    private void criticalByHeadAndTail() {
        for (Sample sample : Sample.WITH_JOBS) {
            Flowforge shop = sample.make();
            for (int place : Room.PLACE.inside(shop)) {
                for (int machine : Room.MACHINE.inside(shop)) {
                    int time = shop.time(shop.jobAt(place), machine);
                    edges.same("isCritical(" + place + ", " + machine + ") of " + sample,
                        shop.head(place, machine) + shop.tail(place, machine) - time == shop.makespan(0),
                        shop.isCritical(place, machine));
                }
            }
        }
        // A moment less is not critical any more.
        Flowforge shop = Shops.of(2, Shops.row(5, 5), Shops.row(5, 5));
        edges.same("isCritical(1, 0) of equal times", true, shop.isCritical(1, 0));
        shop.setTime(1, 0, 4);
        edges.same("isCritical(1, 0) of a time less", false, shop.isCritical(1, 0));
        edges.same("isCritical(0, 1) of a time less", true, shop.isCritical(0, 1));
    }

    private void comparedOrders() {
        edges.same("first of 6 equal orders", "012", Shops.bestOrder(Sample.ONE_MACHINE.make(), 0));
        edges.same("first of 5040 equal orders", "0123456", Shops.bestOrder(TimeEdges.seven(5), 2));
        // The orders 012 and 102 are best: they differ at the place 0.
        Flowforge shop = Shops.of(2, Shops.row(1, 1), Shops.row(1, 1), Shops.row(1, 0));
        edges.same("first order of those with the job 2 at the end", "012", Shops.bestOrder(shop, 0));
        edges.same("number of those with the job 2 at the end", 2, shop.bestOrders(0));
        // The orders 102 and 120 are best: they differ at the place 1.
        Flowforge second = Shops.of(2, Shops.row(5, 5), Shops.row(1, 5), Shops.row(5, 5));
        edges.same("first order of those with the job 1 ahead", "102", Shops.bestOrder(second, 0));
        edges.same("number of those with the job 1 ahead", 2, second.bestOrders(0));
    }

    private void throwingChangesNothing() {
        for (Sample sample : Sample.ALL) {
            Flowforge shop = sample.make();
            for (int wrong : List.of(-1, 7, Integer.MIN_VALUE, Integer.MAX_VALUE)) {
                refuseAll(shop, wrong);
            }
            edges.unchanged("all calls refused", sample, shop);
        }
    }

    private void refuseAll(Flowforge shop, int wrong) {
        edges.fails("setMachines", Edges.ARGUMENT, () -> shop.setMachines(wrong));
        edges.fails("setTime", Edges.INDEX, () -> shop.setTime(wrong, 0, 1));
        edges.fails("setTime", Edges.INDEX, () -> shop.setTime(0, wrong, 1));
        edges.fails("time", Edges.INDEX, () -> shop.time(wrong, 0));
        edges.fails("jobAt", Edges.INDEX, () -> shop.jobAt(wrong));
        edges.fails("move", Edges.INDEX, () -> shop.move(wrong, 0));
        edges.fails("move", Edges.INDEX, () -> shop.move(0, wrong));
        edges.fails("makespanIfMoved", Edges.INDEX, () -> shop.makespanIfMoved(0, wrong));
        edges.fails("makespan", Edges.ARGUMENT, () -> shop.makespan(wrong));
        edges.fails("begin", Edges.ARGUMENT, () -> shop.begin(wrong, 0, 0));
        edges.fails("head", Edges.INDEX, () -> shop.head(wrong, 0));
        edges.fails("tail", Edges.INDEX, () -> shop.tail(0, wrong));
        edges.fails("isCritical", Edges.INDEX, () -> shop.isCritical(wrong, wrong));
        edges.fails("idle", Edges.INDEX, () -> shop.idle(0, wrong));
        edges.fails("machineBound", Edges.INDEX, () -> shop.machineBound(wrong));
        edges.fails("pairBound", Edges.INDEX, () -> shop.pairBound(0, wrong));
        edges.fails("best", Edges.ARGUMENT, () -> shop.best(wrong));
        edges.fails("bestAt", Edges.INDEX, () -> shop.bestAt(2, wrong));
        edges.fails("bestOrders", Edges.ARGUMENT, () -> shop.bestOrders(wrong));
    }

    private void firstExceptionCounts() {
        for (Sample sample : Sample.ALL) {
            edges.refused("setTime(-1, -1, -1)", Edges.INDEX, sample, shop -> shop.setTime(-1, -1, -1));
            edges.refused("setTime(7, 5, 100)", Edges.INDEX, sample, shop -> shop.setTime(7, 5, 100));
            edges.refused("setTime(0, 5, 100)", Edges.INDEX, sample, shop -> shop.setTime(0, 5, 100));
            edges.refused("setTime(7, 0, -1)", Edges.INDEX, sample, shop -> shop.setTime(7, 0, -1));
            edges.refused("begin(3, 7, 5)", Edges.ARGUMENT, sample, shop -> shop.begin(3, 7, 5));
            edges.refused("begin(-1, 0, 5)", Edges.ARGUMENT, sample, shop -> shop.begin(-1, 0, 5));
            edges.refused("begin(-1, 7, 0)", Edges.ARGUMENT, sample, shop -> shop.begin(-1, 7, 0));
            edges.refused("idle(3, 5)", Edges.ARGUMENT, sample, shop -> shop.idle(3, 5));
            edges.refused("bestAt(3, 7)", Edges.ARGUMENT, sample, shop -> shop.bestAt(3, 7));
            edges.refused("pairBound(5, 5)", Edges.INDEX, sample, shop -> shop.pairBound(5, 5));
            edges.refused("pairBound(5, 0)", Edges.INDEX, sample, shop -> shop.pairBound(5, 0));
            edges.refused("pairBound(0, -1)", Edges.INDEX, sample, shop -> shop.pairBound(0, -1));
            edges.refused("move(-1, 7)", Edges.INDEX, sample, shop -> shop.move(-1, 7));
        }
    }
}
