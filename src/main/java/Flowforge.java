/** A library for permutation flow shops. */
public final class Flowforge {
    private static final int MAX_JOBS = 7;
    private static final int MAX_MACHINES = 5;
    private static final int MAX_TIME = 99;
    private static final int MAX_ORDERS = 5040;

    private static final int PLAIN = 0;
    private static final int BLOCKING = 1;
    private static final int NO_WAIT = 2;
    private static final int VARIANTS = 3;

    private int jobCount;
    private int machineCount;

    // Tables of a row for each job or place and a column for each machine; see cell.
    private final int[] times;
    private final int[] begins;
    private final int[] ends;
    private final int[] tails;

    private final int[] order;
    // An order to try something out on, so that the kept one stays as it is.
    private final int[] trial;
    private final int[] queue;

    // The search for a best order is dear, so its outcome is kept until a time, a job or a machine changes.
    private final boolean[] solved;
    private final int[] leastMakespans;
    private final int[] leastCounts;
    private final int[] bestJobs;

    public Flowforge() {
        jobCount = 0;
        machineCount = 2;
        times = new int[MAX_JOBS * MAX_MACHINES];
        begins = new int[MAX_JOBS * MAX_MACHINES];
        ends = new int[MAX_JOBS * MAX_MACHINES];
        tails = new int[MAX_JOBS * MAX_MACHINES];
        order = new int[MAX_JOBS];
        trial = new int[MAX_JOBS];
        queue = new int[MAX_JOBS];
        solved = new boolean[VARIANTS];
        leastMakespans = new int[VARIANTS];
        leastCounts = new int[VARIANTS];
        bestJobs = new int[VARIANTS * MAX_JOBS];
    }

    // ---- times

    public int addJob() throws IllegalStateException {
        if (jobCount >= MAX_JOBS) {
            throw new IllegalStateException("there are 7 jobs");
        }
        int job = jobCount;
        order[job] = job;
        jobCount = job + 1;
        forgetBestOrders();
        return job;
    }

    public int setMachines(int machines) throws IllegalArgumentException {
        if (machines < 1 || machines > MAX_MACHINES) {
            throw new IllegalArgumentException("the number of machines is out of range");
        }
        int before = machineCount;
        for (int job = 0; job < jobCount; job++) {
            for (int machine = machines; machine < MAX_MACHINES; machine++) {
                times[cell(job, machine)] = 0;
            }
        }
        machineCount = machines;
        forgetBestOrders();
        return before;
    }

    public int setTime(int job, int machine, int time) throws IndexOutOfBoundsException, IllegalArgumentException {
        requireJob(job);
        requireMachine(machine);
        if (time < 0 || time > MAX_TIME) {
            throw new IllegalArgumentException("the time is out of range");
        }
        int before = times[cell(job, machine)];
        times[cell(job, machine)] = time;
        forgetBestOrders();
        return before;
    }

    public int time(int job, int machine) throws IndexOutOfBoundsException {
        requireJob(job);
        requireMachine(machine);
        return times[cell(job, machine)];
    }

    public int jobs() {
        return jobCount;
    }

    public int machines() {
        return machineCount;
    }

    // ---- the order

    public int jobAt(int place) throws IndexOutOfBoundsException {
        requirePlace(place);
        return order[place];
    }

    public int move(int job, int place) throws IndexOutOfBoundsException {
        requireJob(job);
        requirePlace(place);
        int before = placeOf(job);
        shift(order, before, place);
        return before;
    }

    public int makespanIfMoved(int job, int place) throws IndexOutOfBoundsException {
        requireJob(job);
        requirePlace(place);
        return makespanIfShifted(placeOf(job), place, jobCount);
    }

    public int orderByRule() throws IllegalStateException {
        if (machineCount != 2) {
            throw new IllegalStateException("there are not 2 machines");
        }
        fillByRule(order, 0, 1);
        return scheduleOrder(PLAIN);
    }

    public int orderByInsertion() {
        fillQueueBySum();
        for (int last = 0; last < jobCount; last++) {
            order[last] = queue[last];
            shift(order, last, placeForLast(last));
        }
        return scheduleOrder(PLAIN);
    }

    public int improve() {
        int before = scheduleOrder(PLAIN);
        int least = before;
        int bestFrom = 0;
        int bestTo = 0;
        // The place that a job has is tried as well, but it is never less.
        for (int from = 0; from < jobCount; from++) {
            for (int to = 0; to < jobCount; to++) {
                int after = makespanIfShifted(from, to, jobCount);
                if (after < least) {
                    least = after;
                    bestFrom = from;
                    bestTo = to;
                }
            }
        }
        if (least < before) {
            shift(order, bestFrom, bestTo);
        }
        return before - least;
    }

    // ---- schedules of the order

    public int makespan(int variant) throws IllegalArgumentException {
        requireVariant(variant);
        return scheduleOrder(variant);
    }

    public int begin(int variant, int place, int machine) throws IllegalArgumentException, IndexOutOfBoundsException {
        requireVariant(variant);
        requirePlace(place);
        requireMachine(machine);
        scheduleOrder(variant);
        return begins[cell(place, machine)];
    }

    public int totalTime() {
        scheduleOrder(PLAIN);
        int total = 0;
        for (int place = 0; place < jobCount; place++) {
            total += ends[cell(place, machineCount - 1)];
        }
        return total;
    }

    public int head(int place, int machine) throws IndexOutOfBoundsException {
        requirePlace(place);
        requireMachine(machine);
        scheduleOrder(PLAIN);
        return ends[cell(place, machine)];
    }

    public int tail(int place, int machine) throws IndexOutOfBoundsException {
        requirePlace(place);
        requireMachine(machine);
        fillTails();
        return tails[cell(place, machine)];
    }

    public boolean isCritical(int place, int machine) throws IndexOutOfBoundsException {
        requirePlace(place);
        requireMachine(machine);
        int whole = scheduleOrder(PLAIN);
        fillTails();
        int here = cell(place, machine);
        return ends[here] + tails[here] - timeOf(order[place], machine) == whole;
    }

    public int idle(int variant, int machine) throws IllegalArgumentException, IndexOutOfBoundsException {
        requireVariant(variant);
        requireMachine(machine);
        if (jobCount == 0) {
            return 0;
        }
        scheduleOrder(variant);
        return ends[cell(jobCount - 1, machine)] - begins[cell(0, machine)] - loadOf(machine);
    }

    // ---- bounds and best orders

    public int machineBound(int machine) throws IndexOutOfBoundsException {
        requireMachine(machine);
        return loadOf(machine) + leastSum(0, machine) + leastSum(machine + 1, machineCount);
    }

    public int pairBound(int first, int second) throws IndexOutOfBoundsException, IllegalArgumentException {
        requireMachine(first);
        requireMachine(second);
        if (first >= second) {
            throw new IllegalArgumentException("the first machine is not less than the second one");
        }
        return leastOfPair(first, second) + leastSum(0, first) + leastSum(second + 1, machineCount);
    }

    public int best(int variant) throws IllegalArgumentException {
        requireVariant(variant);
        findBestOrder(variant);
        return leastMakespans[variant];
    }

    public int bestAt(int variant, int place) throws IllegalArgumentException, IndexOutOfBoundsException {
        requireVariant(variant);
        requirePlace(place);
        findBestOrder(variant);
        return bestJobs[variant * MAX_JOBS + place];
    }

    public int bestOrders(int variant) throws IllegalArgumentException {
        requireVariant(variant);
        findBestOrder(variant);
        return leastCounts[variant];
    }

    public double gap() {
        int own = scheduleOrder(PLAIN);
        findBestOrder(PLAIN);
        int least = leastMakespans[PLAIN];
        if (least == 0) {
            return 0.0;
        }
        return (double) (own - least) / (double) least;
    }

    // ---- what the calls ask of their arguments

    private void requireJob(int job) {
        if (job < 0 || job >= jobCount) {
            throw new IndexOutOfBoundsException("there is no such job");
        }
    }

    private void requirePlace(int place) {
        if (place < 0 || place >= jobCount) {
            throw new IndexOutOfBoundsException("there is no such place");
        }
    }

    private void requireMachine(int machine) {
        if (machine < 0 || machine >= machineCount) {
            throw new IndexOutOfBoundsException("there is no such machine");
        }
    }

    private static void requireVariant(int variant) {
        if (variant < 0 || variant >= VARIANTS) {
            throw new IllegalArgumentException("the variant is out of range");
        }
    }

    // ---- times of jobs

    private static int cell(int row, int machine) {
        return row * MAX_MACHINES + machine;
    }

    /** The job often comes out of an order, so it is tested here rather than trusted. */
    private int timeOf(int job, int machine) {
        if (job < 0 || job >= MAX_JOBS || machine < 0 || machine >= MAX_MACHINES) {
            return 0;
        }
        return times[cell(job, machine)];
    }

    /** The times of a job on the machines from one, up to but without another. */
    private int sumOf(int job, int from, int to) {
        int sum = 0;
        for (int machine = from; machine < to; machine++) {
            sum += timeOf(job, machine);
        }
        return sum;
    }

    private int leastSum(int from, int to) {
        int least = sumOf(0, from, to);
        for (int job = 1; job < jobCount; job++) {
            least = Math.min(least, sumOf(job, from, to));
        }
        return least;
    }

    private int loadOf(int machine) {
        int load = 0;
        for (int job = 0; job < jobCount; job++) {
            load += timeOf(job, machine);
        }
        return load;
    }

    // ---- building orders

    private int placeOf(int job) {
        int place = 0;
        while (place < jobCount - 1 && order[place] != job) {
            place++;
        }
        return place;
    }

    private static void shift(int[] list, int from, int to) {
        int job = list[from];
        for (int place = from; place < to; place++) {
            list[place] = list[place + 1];
        }
        for (int place = from; place > to; place--) {
            list[place] = list[place - 1];
        }
        list[to] = job;
    }

    /** The plain makespan of the first jobs of the order if one of them were shifted. */
    private int makespanIfShifted(int from, int to, int count) {
        System.arraycopy(order, 0, trial, 0, count);
        shift(trial, from, to);
        for (int place = 0; place < count; place++) {
            scheduleJob(PLAIN, place, trial[place]);
        }
        return lastEnd(count);
    }

    private int placeForLast(int last) {
        int bestPlace = 0;
        int least = makespanIfShifted(last, 0, last + 1);
        for (int place = 1; place <= last; place++) {
            int after = makespanIfShifted(last, place, last + 1);
            if (after < least) {
                least = after;
                bestPlace = place;
            }
        }
        return bestPlace;
    }

    private void fillQueueBySum() {
        for (int job = 0; job < jobCount; job++) {
            int sum = sumOf(job, 0, machineCount);
            int place = job;
            while (place > 0 && sum > sumOf(queue[place - 1], 0, machineCount)) {
                queue[place] = queue[place - 1];
                place--;
            }
            queue[place] = job;
        }
    }

    private void fillByRule(int[] list, int first, int second) {
        for (int job = 0; job < jobCount; job++) {
            int place = job;
            while (place > 0 && goesBefore(job, list[place - 1], first, second)) {
                list[place] = list[place - 1];
                place--;
            }
            list[place] = job;
        }
    }

    /** Equal jobs go before neither one, so that sorting keeps them in the order of their numbers. */
    private boolean goesBefore(int job, int other, int first, int second) {
        boolean early = timeOf(job, first) <= timeOf(job, second);
        boolean otherEarly = timeOf(other, first) <= timeOf(other, second);
        if (early != otherEarly) {
            return early;
        }
        if (early) {
            return timeOf(job, first) < timeOf(other, first);
        }
        return timeOf(job, second) > timeOf(other, second);
    }

    /** No order of two machines is better than the one by the rule, so no other one is tried. */
    private int leastOfPair(int first, int second) {
        fillByRule(trial, first, second);
        int endOnFirst = 0;
        int endOnSecond = 0;
        for (int place = 0; place < jobCount; place++) {
            endOnFirst += timeOf(trial[place], first);
            endOnSecond = Math.max(endOnFirst, endOnSecond) + timeOf(trial[place], second);
        }
        return endOnSecond;
    }

    // ---- schedules

    /** Fills begins and ends, and answers the makespan. */
    private int scheduleOrder(int variant) {
        for (int place = 0; place < jobCount; place++) {
            scheduleJob(variant, place, order[place]);
        }
        return lastEnd(jobCount);
    }

    private int lastEnd(int count) {
        if (count < 1) {
            return 0;
        }
        return ends[cell(count - 1, machineCount - 1)];
    }

    /** Needs the begins and ends of the place before, and only those. */
    private void scheduleJob(int variant, int place, int job) {
        int moment = variant == NO_WAIT ? beginWithoutWaiting(place, job) : 0;
        for (int machine = 0; machine < machineCount; machine++) {
            int start = Math.max(moment, freeFrom(variant, place, machine));
            begins[cell(place, machine)] = start;
            moment = start + timeOf(job, machine);
            ends[cell(place, machine)] = moment;
        }
    }

    /** So late that the job finds every machine free at the moment at which it comes there. */
    private int beginWithoutWaiting(int place, int job) {
        int start = 0;
        int way = 0;
        for (int machine = 0; machine < machineCount; machine++) {
            start = Math.max(start, freeFrom(NO_WAIT, place, machine) - way);
            way += timeOf(job, machine);
        }
        return start;
    }

    private int freeFrom(int variant, int place, int machine) {
        if (place < 1) {
            return 0;
        }
        if (variant == BLOCKING && machine < machineCount - 1) {
            return begins[cell(place - 1, machine + 1)];
        }
        return ends[cell(place - 1, machine)];
    }

    private void fillTails() {
        for (int place = jobCount - 1; place >= 0; place--) {
            for (int machine = machineCount - 1; machine >= 0; machine--) {
                int behind = 0;
                if (machine < machineCount - 1) {
                    behind = tails[cell(place, machine + 1)];
                }
                if (place < jobCount - 1) {
                    behind = Math.max(behind, tails[cell(place + 1, machine)]);
                }
                tails[cell(place, machine)] = timeOf(order[place], machine) + behind;
            }
        }
    }

    // ---- the search for a best order

    private void forgetBestOrders() {
        for (int variant = 0; variant < VARIANTS; variant++) {
            solved[variant] = false;
        }
    }

    /** Goes through all orders, the first one first, so that the first best one is met before all others. */
    private void findBestOrder(int variant) {
        if (solved[variant]) {
            return;
        }
        leastCounts[variant] = 0;
        for (int place = 0; place < jobCount; place++) {
            trial[place] = place;
        }
        int changed = 0;
        for (int tried = 0; tried < MAX_ORDERS && changed >= 0; tried++) {
            for (int place = changed; place < jobCount; place++) {
                scheduleJob(variant, place, trial[place]);
            }
            countTrial(variant, lastEnd(jobCount));
            changed = stepTrial();
        }
        solved[variant] = true;
    }

    private void countTrial(int variant, int makespan) {
        if (leastCounts[variant] == 0 || makespan < leastMakespans[variant]) {
            leastMakespans[variant] = makespan;
            leastCounts[variant] = 0;
            System.arraycopy(trial, 0, bestJobs, variant * MAX_JOBS, jobCount);
        }
        if (makespan == leastMakespans[variant]) {
            leastCounts[variant]++;
        }
    }

    /** Makes the trial the next order; answers the first place that changed, or -1 if it was the last order. */
    private int stepTrial() {
        int pivot = jobCount - 2;
        while (pivot >= 0 && trial[pivot] > trial[pivot + 1]) {
            pivot--;
        }
        if (pivot < 0) {
            return -1;
        }
        int partner = jobCount - 1;
        while (partner > pivot + 1 && trial[partner] < trial[pivot]) {
            partner--;
        }
        swapInTrial(pivot, partner);
        for (int left = pivot + 1, right = jobCount - 1; left < right; left++, right--) {
            swapInTrial(left, right);
        }
        return pivot;
    }

    private void swapInTrial(int one, int other) {
        int job = trial[one];
        trial[one] = trial[other];
        trial[other] = job;
    }
}
