import java.util.ArrayList;
import java.util.List;

/** Promises 8 to 13, sentence by sentence. */
final class OrderEdges {
    private static final String WRONG_JOB_OR_PLACE =
        "Throws `IndexOutOfBoundsException` if there is no such job or no such place";

    private final Edges edges;

    OrderEdges(Edges edges) {
        this.edges = edges;
    }

    void run() {
        edges.under("Promise 8: jobAt");
        edges.test("Returns the job at a place of the order.", this::eachPlaceIsRead);
        edges.test("`place`: 0 for the first job", this::firstAndLastPlace);
        edges.test("Returns the number of the job.", this::jobAtReturnsTheNumber);
        edges.test("Throws `IndexOutOfBoundsException` if there is no such place", this::jobAtBesideTheOrderIsRefused);

        edges.under("Promise 9: move");
        edges.test("Moves a job: it is taken out of the order, and put in so that it stands at the given place.",
            this::eachMove);
        edges.test("`job`: its number", this::firstAndLastJobAreMoved);
        edges.test("`place`: the new place", this::ownFirstAndLastPlace);
        edges.test("Returns its place before.", this::moveReturnsThePlaceBefore);
        edges.test(WRONG_JOB_OR_PLACE, this::wrongMovesAreRefused);

        edges.under("Promise 10: makespanIfMoved");
        edges.test("Returns the plain makespan that the order would have if a job were moved.", this::eachMoveIsTried);
        edges.test("Nothing changes.", this::triedMovesChangeNothing);
        edges.test("`job`: its number", this::firstAndLastJobAreTried);
        edges.test("`place`: the new place, which may be the one that it has", this::ownFirstAndLastPlaceAreTried);
        edges.test("Returns the makespan.", this::triedMakespansOf0And99);
        edges.test(WRONG_JOB_OR_PLACE, this::wrongTrialsAreRefused);

        edges.under("Promise 11: orderByRule");
        edges.test("Orders the jobs by the rule for two machines (Johnson's rule): first the jobs whose time on the "
            + "machine 0 is at most their time on the machine 1, by ascending time on the machine 0; then the others, by "
            + "descending time on the machine 1; those of equal times by ascending number.", this::rule);
        edges.test("Returns the plain makespan then.", this::ruleReturnsTheMakespan);
        edges.test("Throws `IllegalStateException` if there are not 2 machines", this::ruleNeedsTwoMachines);

        edges.under("Promise 12: orderByInsertion");
        edges.test("Orders the jobs by insertion (after Nawaz, Enscore and Ham): the jobs are taken by descending sum of "
            + "their times on all machines, those of equal sums by ascending number; starting with an empty order, each "
            + "is put in at the place where the plain makespan of the jobs that are in the order then is least, of "
            + "several such places at the lowest one.", this::insertion);
        edges.test("Returns the plain makespan then.", this::insertionReturnsTheMakespan);

        edges.under("Promise 13: improve");
        edges.test("Improves the order by one move.", this::oneMoveAtATime);
        edges.test("Of all moves of a job to another place the one after which the plain makespan is least is chosen; of "
            + "several such moves the one of the job with the lowest place, and of several of these the one to the "
            + "lowest place.", this::leastMoveIsChosen);
        edges.test("It is made if the makespan becomes less.", this::equalMovesAreNotMade);
        edges.test("Returns by how much the makespan becomes less; 0 if no move is made.", this::improveReturnsTheDifference);
    }

    /** Plain, the order 0123 takes 14; blocking and no-wait, it takes 22. */
    static Flowforge queued() {
        return Shops.of(3, Shops.row(1, 1, 9), Shops.row(1, 1, 1), Shops.row(1, 9, 1), Shops.row(9, 1, 1));
    }

    private void eachPlaceIsRead() {
        Flowforge shop = Sample.SEVEN_JOBS_FIVE_MACHINES.make();
        int[] order = {6, 4, 2, 0, 1, 3, 5};
        for (int place = 0; place < 7; place++) {
            edges.same("jobAt(" + place + ")", order[place], shop.jobAt(place));
        }
    }

    private void firstAndLastPlace() {
        edges.same("jobAt(0) of one job", 0, Sample.ONE_JOB.make().jobAt(0));
        edges.same("jobAt(0) of 3 jobs", 2, Sample.THREE_JOBS.make().jobAt(0));
        edges.same("jobAt(2) of 3 jobs", 0, Sample.THREE_JOBS.make().jobAt(2));
        edges.same("jobAt(6) of 7 jobs", 5, Sample.SEVEN_JOBS_FIVE_MACHINES.make().jobAt(6));
    }

    private void jobAtReturnsTheNumber() {
        Flowforge shop = TimeEdges.seven(2);
        shop.move(6, 0);
        shop.move(0, 6);
        edges.same("jobAt(0), the greatest number", 6, shop.jobAt(0));
        edges.same("jobAt(6), the least number", 0, shop.jobAt(6));
        edges.same("jobAt(3)", 3, shop.jobAt(3));
    }

    private void jobAtBesideTheOrderIsRefused() {
        edges.refusedOutside("jobAt(%)", Edges.INDEX, Room.PLACE, Sample.ALL, Flowforge::jobAt);
    }

    private void eachMove() {
        for (int job = 0; job < 7; job++) {
            for (int place = 0; place < 7; place++) {
                Flowforge shop = Sample.SEVEN_JOBS_TWO_MACHINES.make();
                List<Integer> order = new ArrayList<>(List.of(6, 5, 4, 3, 2, 1, 0));
                order.remove(Integer.valueOf(job));
                order.add(place, job);
                shop.move(job, place);
                edges.same("order behind move(" + job + ", " + place + ")", Model.text(order), Shops.order(shop));
            }
        }
        Flowforge asked = TimeEdges.asked();
        asked.move(1, 0);
        edges.asNew("move(1, 0)", asked);
    }

    private void firstAndLastJobAreMoved() {
        Flowforge shop = TimeEdges.seven(2);
        shop.move(0, 3);
        edges.same("order behind move(0, 3)", "1230456", Shops.order(shop));
        shop.move(6, 3);
        edges.same("order behind move(6, 3)", "1236045", Shops.order(shop));
        shop.move(0, 0);
        edges.same("order behind move(0, 0) from the place 4", "0123645", Shops.order(shop));
    }

    private void ownFirstAndLastPlace() {
        Flowforge shop = TimeEdges.seven(5);
        for (int job : new int[] {0, 3, 6}) {
            shop.move(job, job);
            edges.same("order behind a move onto its own place", "0123456", Shops.order(shop));
        }
        shop.move(0, 6);
        edges.same("order behind a move from the first place to the last one", "1234560", Shops.order(shop));
        shop.move(0, 0);
        edges.same("order behind a move from the last place to the first one", "0123456", Shops.order(shop));
        shop.move(2, 3);
        edges.same("order behind a move to the next place", "0132456", Shops.order(shop));
        shop.move(2, 2);
        edges.same("order behind a move to the place before", "0123456", Shops.order(shop));
        Flowforge one = Sample.ONE_JOB.make();
        one.move(0, 0);
        edges.same("order of one job", "0", Shops.order(one));
    }

    private void moveReturnsThePlaceBefore() {
        Flowforge shop = TimeEdges.seven(1);
        edges.same("move(0, 6)", 0, shop.move(0, 6));
        edges.same("move(0, 6) again, onto its own place", 6, shop.move(0, 6));
        edges.same("move(0, 0)", 6, shop.move(0, 0));
        edges.same("move(0, 0) again, onto its own place", 0, shop.move(0, 0));
        edges.same("move(3, 2)", 3, shop.move(3, 2));
        edges.same("move(2, 2)", 3, shop.move(2, 2));
        edges.same("move(6, 0)", 6, shop.move(6, 0));
        edges.same("move(5, 5), behind another job's move", 6, shop.move(5, 5));
        edges.same("move(0, 0) of one job", 0, Sample.ONE_JOB.make().move(0, 0));
    }

    private void wrongMovesAreRefused() {
        edges.refusedOutside("move(%, 0)", Edges.INDEX, Room.JOB, Sample.ALL, (shop, job) -> shop.move(job, 0));
        edges.refusedOutside("move(0, %)", Edges.INDEX, Room.PLACE, Sample.ALL, (shop, place) -> shop.move(0, place));
        edges.refusedOutside("move(%, last)", Edges.INDEX, Room.JOB, Sample.ALL,
            (shop, job) -> shop.move(job, shop.jobs() - 1));
        edges.refusedOutside("move(last, %)", Edges.INDEX, Room.PLACE, Sample.ALL,
            (shop, place) -> shop.move(shop.jobs() - 1, place));
        edges.refusedOutside("move(%, %)", Edges.INDEX, Room.JOB, Sample.ALL, (shop, both) -> shop.move(both, both));
    }

    private void eachMoveIsTried() {
        int[][] makespans = {{15, 16, 16}, {15, 16, 16}, {16, 15, 15}};
        for (int job = 0; job < 3; job++) {
            for (int place = 0; place < 3; place++) {
                edges.same("makespanIfMoved(" + job + ", " + place + ") of the order 210", makespans[job][place],
                    Sample.THREE_JOBS.make().makespanIfMoved(job, place));
            }
        }
        edges.same("makespanIfMoved(1, 1), where blocking takes 22", 14, queued().makespanIfMoved(1, 1));
        for (Sample sample : Sample.WITH_JOBS) {
            for (int job : Room.JOB.inside(sample.make())) {
                for (int place : Room.PLACE.inside(sample.make())) {
                    Flowforge moved = sample.make();
                    moved.move(job, place);
                    edges.same("makespanIfMoved(" + job + ", " + place + ") of " + sample, moved.makespan(0),
                        sample.make().makespanIfMoved(job, place));
                }
            }
        }
    }

    private void triedMovesChangeNothing() {
        for (Sample sample : Sample.WITH_JOBS) {
            Flowforge shop = sample.make();
            int jobs = shop.jobs();
            for (int job = 0; job < jobs; job++) {
                for (int place = 0; place < jobs; place++) {
                    shop.makespanIfMoved(job, place);
                }
            }
            edges.unchanged("all moves tried of " + sample, sample, shop);
        }
    }

    private void firstAndLastJobAreTried() {
        // Two machines; 0123456 takes longest with the job 0 first and shortest with it last.
        Flowforge shop = TimeEdges.seven(2);
        shop.setTime(0, 0, 99);
        shop.setTime(6, 1, 99);
        edges.same("makespanIfMoved(0, 0)", 198, shop.makespanIfMoved(0, 0));
        edges.same("makespanIfMoved(0, 6)", 99, shop.makespanIfMoved(0, 6));
        edges.same("makespanIfMoved(6, 0)", 99, shop.makespanIfMoved(6, 0));
        edges.same("makespanIfMoved(6, 1)", 198, shop.makespanIfMoved(6, 1));
        edges.same("makespanIfMoved(0, 0) of one job", 99, Sample.ONE_JOB.make().makespanIfMoved(0, 0));
    }

    private void ownFirstAndLastPlaceAreTried() {
        for (Sample sample : Sample.WITH_JOBS) {
            Flowforge shop = sample.make();
            for (int place = 0; place < shop.jobs(); place++) {
                edges.same("makespanIfMoved onto its own place " + place + " of " + sample, shop.makespan(0),
                    shop.makespanIfMoved(shop.jobAt(place), place));
            }
        }
        // Only the order 201 takes 19; 012 takes 24.
        Flowforge last = Shops.of(2, Shops.row(5, 5), Shops.row(6, 4), Shops.row(1, 9));
        edges.same("makespanIfMoved from the last place to the first one", 19, last.makespanIfMoved(2, 0));
        Flowforge first = Shops.of(2, Shops.row(9, 1), Shops.row(2, 6), Shops.row(1, 4));
        edges.same("makespanIfMoved from the first place to the last one", 13, first.makespanIfMoved(0, 2));
    }

    private void triedMakespansOf0And99() {
        edges.same("makespanIfMoved(6, 0) of times 0", 0, TimeEdges.seven(5).makespanIfMoved(6, 0));
        edges.same("makespanIfMoved(6, 0) of times 99", 11 * 99, ScheduleEdges.full().makespanIfMoved(6, 0));
        edges.same("makespanIfMoved(2, 0) on one machine", 103, Sample.ONE_MACHINE.make().makespanIfMoved(2, 0));
    }

    private void wrongTrialsAreRefused() {
        edges.refusedOutside("makespanIfMoved(%, 0)", Edges.INDEX, Room.JOB, Sample.ALL,
            (shop, job) -> shop.makespanIfMoved(job, 0));
        edges.refusedOutside("makespanIfMoved(0, %)", Edges.INDEX, Room.PLACE, Sample.ALL,
            (shop, place) -> shop.makespanIfMoved(0, place));
        edges.refusedOutside("makespanIfMoved(%, last)", Edges.INDEX, Room.JOB, Sample.ALL,
            (shop, job) -> shop.makespanIfMoved(job, shop.jobs() - 1));
        edges.refusedOutside("makespanIfMoved(last, %)", Edges.INDEX, Room.PLACE, Sample.ALL,
            (shop, place) -> shop.makespanIfMoved(shop.jobs() - 1, place));
        edges.refusedOutside("makespanIfMoved(%, %)", Edges.INDEX, Room.JOB, Sample.ALL,
            (shop, both) -> shop.makespanIfMoved(both, both));
    }

    /** The order that the rule makes of another order, the last job first. */
    private static String ruled(int[]... rows) {
        Flowforge shop = Shops.of(2, rows);
        for (int job = 0; job < rows.length; job++) {
            shop.move(job, 0);
        }
        shop.orderByRule();
        return Shops.order(shop);
    }

    private void rule() {
        edges.same("order without jobs", "", ruled());
        edges.same("order of one job", "0", ruled(Shops.row(9, 1)));
        Flowforge seven = Sample.SEVEN_JOBS_TWO_MACHINES.make();
        seven.orderByRule();
        edges.same("order of 7 jobs", "5132406", Shops.order(seven));
        edges.same("equal times on both machines are at most", "10", ruled(Shops.row(5, 4), Shops.row(6, 6)));
        edges.same("one less on the machine 1 is not", "10", ruled(Shops.row(6, 5), Shops.row(9, 9)));
        edges.same("first ones, by ascending time on the machine 0", "210",
            ruled(Shops.row(3, 3), Shops.row(2, 9), Shops.row(1, 5)));
        edges.same("others, by descending time on the machine 1", "210",
            ruled(Shops.row(7, 1), Shops.row(9, 2), Shops.row(8, 3)));
        edges.same("first ones of equal times on the machine 0", "012",
            ruled(Shops.row(2, 9), Shops.row(2, 2), Shops.row(2, 5)));
        edges.same("others of equal times on the machine 1", "012",
            ruled(Shops.row(9, 2), Shops.row(3, 2), Shops.row(5, 2)));
        edges.same("times 0 and 99", "1230", ruled(Shops.row(1, 0), Shops.row(0, 0), Shops.row(0, 1), Shops.row(99, 99)));
        edges.same("7 jobs of equal times 99", "0123456", ruled(Shops.row(99, 99), Shops.row(99, 99), Shops.row(99, 99),
            Shops.row(99, 99), Shops.row(99, 99), Shops.row(99, 99), Shops.row(99, 99)));
        Flowforge zero = TimeEdges.seven(2);
        zero.move(6, 0);
        zero.orderByRule();
        edges.same("7 jobs of equal times 0", "0123456", Shops.order(zero));
        Flowforge asked = TimeEdges.asked();
        asked.setMachines(2);
        asked.orderByRule();
        edges.asNew("orderByRule()", asked);
    }

    private void ruleReturnsTheMakespan() {
        edges.same("orderByRule() without jobs", 0, new Flowforge().orderByRule());
        edges.same("orderByRule() of one job", 99, Sample.ONE_JOB.make().orderByRule());
        Flowforge seven = Sample.SEVEN_JOBS_TWO_MACHINES.make();
        edges.same("orderByRule() of 7 jobs", 127, seven.orderByRule());
        edges.same("makespan(0) of 7 jobs", 127, seven.makespan(0));
        edges.same("orderByRule() of times 0", 0, TimeEdges.seven(2).orderByRule());
        // Blocking, the job 1 stays on the machine 0 until 11.
        Flowforge plain = Shops.of(2, Shops.row(1, 10), Shops.row(1, 2), Shops.row(9, 1));
        edges.same("orderByRule() where blocking takes longer", 14, plain.orderByRule());
        edges.same("the order then", "012", Shops.order(plain));
        edges.same("makespan(1) then", 21, plain.makespan(1));
    }

    private void ruleNeedsTwoMachines() {
        for (Sample sample : List.of(Sample.NO_JOBS_FIVE_MACHINES, Sample.ONE_MACHINE, Sample.THREE_JOBS,
            Sample.SEVEN_JOBS_FIVE_MACHINES)) {
            edges.refused("orderByRule()", Edges.STATE, sample, Flowforge::orderByRule);
        }
        Flowforge shop = Shops.of(2, Shops.row(2, 3), Shops.row(1, 3));
        for (int machines : new int[] {1, 3, 4, 5}) {
            shop.setMachines(machines);
            edges.fails("orderByRule() with " + machines + " machines", Edges.STATE, shop::orderByRule);
            edges.same("order behind it", "01", Shops.order(shop));
        }
        shop.setMachines(2);
        edges.same("orderByRule() with 2 machines again, where the times on the machine 1 are 0", 3, shop.orderByRule());
    }

    /** The order that insertion makes, whatever the order before was: from two of them. */
    private void inserted(String what, String want, int machines, int[]... rows) {
        Flowforge shop = Shops.of(machines, rows);
        shop.orderByInsertion();
        edges.same(what, want, Shops.order(shop));
        for (int job = 0; job < rows.length; job++) {
            shop.move(job, 0);
        }
        shop.orderByInsertion();
        edges.same(what + ", from the order turned round", want, Shops.order(shop));
    }

    private void insertion() {
        inserted("order without jobs", "", 2);
        inserted("order of one job", "0", 5, Shops.row(1, 2, 3, 4, 5));
        // Taken 1, 2, 0. The jobs 1 and 2 take 15 in either order; then 021 takes 19, 201 takes 17, 210 takes 18.
        inserted("order of three jobs", "201", 3, Shops.row(4, 0, 3), Shops.row(3, 5, 3), Shops.row(2, 5, 2));
        inserted("order if the last place is the best one", "01", 2, Shops.row(1, 9), Shops.row(9, 1));
        inserted("order if the first place is the best one", "10", 2, Shops.row(9, 2), Shops.row(1, 9));
        // On one machine all places are equal, so each job goes to the place 0.
        inserted("sums that fall are taken in their order", "210", 1, Shops.row(3), Shops.row(2), Shops.row(1));
        inserted("sums that rise are taken from behind", "012", 1, Shops.row(1), Shops.row(2), Shops.row(3));
        inserted("equal sums are taken by number", "3201", 1, Shops.row(4), Shops.row(9), Shops.row(4), Shops.row(4));
        inserted("sums of the last machine alone", "201", 2, Shops.row(0, 4), Shops.row(0, 9), Shops.row(0, 4));
        inserted("sums of the first machine alone", "201", 2, Shops.row(4, 0), Shops.row(9, 0), Shops.row(4, 0));
        inserted("sums of all five machines", "021", 5, Shops.row(0, 0, 1, 0, 0), Shops.row(0, 0, 3, 0, 0),
            Shops.row(0, 0, 2, 0, 0));
        inserted("equal sums 0 of 7 jobs", "6543210", 5, Shops.row(0), Shops.row(0), Shops.row(0), Shops.row(0),
            Shops.row(0), Shops.row(0), Shops.row(0));
        Flowforge full = Sample.SEVEN_JOBS_FIVE_MACHINES.make();
        Model model = Model.of(full);
        model.orderByInsertion();
        full.orderByInsertion();
        edges.same("order of 7 jobs on 5 machines", Model.text(model.order), Shops.order(full));
        Flowforge asked = TimeEdges.asked();
        asked.orderByInsertion();
        edges.asNew("orderByInsertion()", asked);
    }

    private void insertionReturnsTheMakespan() {
        edges.same("orderByInsertion() without jobs", 0, new Flowforge().orderByInsertion());
        edges.same("orderByInsertion() of one job", 99, Sample.ONE_JOB.make().orderByInsertion());
        edges.same("orderByInsertion() on one machine", 103, Sample.ONE_MACHINE.make().orderByInsertion());
        edges.same("orderByInsertion() of times 0", 0, TimeEdges.seven(5).orderByInsertion());
        edges.same("orderByInsertion() of times 99", 11 * 99, ScheduleEdges.full().orderByInsertion());
        // 102 would take 16.
        Flowforge shop = Shops.of(3, Shops.row(4, 0, 3), Shops.row(3, 5, 3), Shops.row(2, 5, 2));
        edges.same("orderByInsertion() that is not best", 17, shop.orderByInsertion());
        edges.same("makespan(0) then", 17, shop.makespan(0));
        edges.same("best(0) then", 16, shop.best(0));
    }

    private void oneMoveAtATime() {
        Flowforge shop = Shops.of(2, Shops.row(3, 1), Shops.row(3, 5), Shops.row(1, 4));
        edges.same("makespan(0)", 15, shop.makespan(0));
        shop.improve();
        edges.same("order behind one move", "201", Shops.order(shop));
        edges.same("makespan(0) behind one move", 12, shop.makespan(0));
        shop.improve();
        edges.same("order behind two moves", "210", Shops.order(shop));
        edges.same("makespan(0) behind two moves", 11, shop.makespan(0));
        shop.improve();
        edges.same("order if nothing is better", "210", Shops.order(shop));
        Flowforge last = TimeEdges.seven(2);
        last.setTime(0, 0, 99);
        last.setTime(6, 1, 99);
        last.setTime(6, 0, 1);
        last.setTime(0, 1, 1);
        last.improve();
        edges.same("order behind the first job's move to the last place", "1234560", Shops.order(last));
        Flowforge asked = TimeEdges.asked();
        asked.improve();
        edges.asNew("improve()", asked);
    }

    private void leastMoveIsChosen() {
        // 102 would take 16, 120 takes 13.
        improved("a later move may be the least", "120", Shops.of(2, Shops.row(9, 1), Shops.row(2, 6), Shops.row(1, 4)));
        // A job's move to 102 and others would take 13, the last job's to the place 0 takes 12.
        improved("a later job's move may be the least", "201",
            Shops.of(2, Shops.row(3, 1), Shops.row(3, 5), Shops.row(1, 4)));
        // 120, 102, 021 and others take 15: the job 2 stands at the place 0, so its moves count.
        improved("of equal moves the lowest place's, not the lowest number's", "120", Sample.THREE_JOBS.make());
        // The last job's moves to the places 0 and 1 take 15, all other ones more.
        improved("of equal moves of a job to lower places the lowest one", "3012",
            Shops.of(2, Shops.row(2, 2), Shops.row(3, 1), Shops.row(4, 4), Shops.row(2, 5)));
        // 102 and 120 both take 21, as others do.
        improved("of equal moves of a job to higher places the lowest one", "102",
            Shops.of(3, Shops.row(5, 1, 3), Shops.row(4, 5, 4), Shops.row(3, 2, 5)));
        // All moves of the first job to higher places are equal; 7 jobs.
        Flowforge seven = TimeEdges.seven(2);
        seven.setTime(0, 0, 99);
        seven.setTime(1, 1, 99);
        improved("of equal moves of 7 jobs the first job's to the lowest place", "1023456", seven);
    }

    private void improved(String what, String want, Flowforge shop) {
        shop.improve();
        edges.same(what, want, Shops.order(shop));
    }

    private void equalMovesAreNotMade() {
        improved("order of equal times 0", "0123456", TimeEdges.seven(5));
        improved("order of equal times 99", "0123456", ScheduleEdges.full());
        improved("order on one machine", "120", Sample.ONE_MACHINE.make());
        improved("order of one job", "0", Sample.ONE_JOB.make());
        // 01 and 10 both take 3, and in the other variants too.
        improved("order of two jobs that may be either way", "10", turned());
        // 0123 takes 14, and blocking it could be less than 22.
        improved("order where only blocking becomes less", "0123", queued());
    }

    private static Flowforge turned() {
        Flowforge shop = Shops.of(2, Shops.row(1, 1), Shops.row(1, 1));
        shop.move(1, 0);
        return shop;
    }

    private void improveReturnsTheDifference() {
        edges.same("improve() without jobs", 0, new Flowforge().improve());
        edges.same("improve() of one job", 0, Sample.ONE_JOB.make().improve());
        edges.same("improve() on one machine", 0, Sample.ONE_MACHINE.make().improve());
        edges.same("improve() of times 99", 0, ScheduleEdges.full().improve());
        edges.same("improve() where only blocking becomes less", 0, queued().improve());
        Flowforge shop = Shops.of(2, Shops.row(3, 1), Shops.row(3, 5), Shops.row(1, 4));
        edges.same("improve() from 15 to 12", 3, shop.improve());
        edges.same("improve() from 12 to 11", 1, shop.improve());
        edges.same("improve() if nothing is better", 0, shop.improve());
        Flowforge seven = TimeEdges.seven(2);
        seven.setTime(0, 0, 99);
        seven.setTime(6, 1, 99);
        edges.same("improve() from 198 to 99", 99, seven.improve());
    }
}
