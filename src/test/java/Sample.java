import java.util.List;

/** Shops of the edges of what is allowed. Each can be made again and again, by the same calls. */
enum Sample {
    NEW(2, ""),
    NO_JOBS_FIVE_MACHINES(5, ""),
    ONE_JOB(2, "0", Shops.row(99, 0)),
    ONE_MACHINE(1, "120", Shops.row(4), Shops.row(0), Shops.row(99)),
    /** Its plain makespans: 012, 021, 102 and 120 take 15, 201 and 210 take 16. */
    THREE_JOBS(3, "210", Shops.row(3, 2, 4), Shops.row(1, 5, 2), Shops.row(4, 1, 3)),
    SEVEN_JOBS_TWO_MACHINES(2, "6543210", Shops.row(5, 2), Shops.row(1, 6), Shops.row(9, 7), Shops.row(3, 8),
        Shops.row(10, 4), Shops.row(0, 99), Shops.row(99, 0)),
    SEVEN_JOBS_FIVE_MACHINES(5, "6420135", Shops.row(99, 0, 5, 17, 42), Shops.row(0, 99, 5, 17, 42),
        Shops.row(12, 12, 12, 12, 12), Shops.row(7, 31, 0, 99, 3), Shops.row(99, 99, 99, 99, 99),
        Shops.row(0, 0, 0, 0, 0), Shops.row(12, 12, 12, 12, 12));

    static final List<Sample> ALL = List.of(values());
    static final List<Sample> WITH_JOBS = List.of(ONE_JOB, ONE_MACHINE, THREE_JOBS, SEVEN_JOBS_TWO_MACHINES,
        SEVEN_JOBS_FIVE_MACHINES);

    private final int machines;
    private final String order;
    private final int[][] rows;
    private List<String> answers;
    private List<String> laterAnswers;

    Sample(int machines, String order, int[]... rows) {
        this.machines = machines;
        this.order = order;
        this.rows = rows;
    }

    Flowforge make() {
        Flowforge shop = Shops.of(machines, rows);
        for (int place = 0; place < order.length(); place++) {
            shop.move(order.charAt(place) - '0', place);
        }
        return shop;
    }

    List<String> answers() {
        if (answers == null) {
            answers = Answers.all(make());
        }
        return answers;
    }

    List<String> laterAnswers() {
        if (laterAnswers == null) {
            laterAnswers = Answers.later(make());
        }
        return laterAnswers;
    }
}
