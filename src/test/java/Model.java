import java.util.ArrayList;
import java.util.List;

/** The document's words put down a second time, as slowly and as literally as can be, to compare with. */
final class Model {
    static final class Best {
        int makespan;
        int count;
        String first;
    }

    int machines = 2;
    final List<int[]> times = new ArrayList<>();
    List<Integer> order = new ArrayList<>();

    /** A model of what a shop can be seen to hold. */
    static Model of(Flowforge shop) {
        Model model = new Model();
        model.machines = shop.machines();
        for (int job = 0; job < shop.jobs(); job++) {
            int[] row = new int[5];
            for (int machine = 0; machine < model.machines; machine++) {
                row[machine] = shop.time(job, machine);
            }
            model.times.add(row);
            model.order.add(shop.jobAt(job));
        }
        return model;
    }

    int jobs() {
        return times.size();
    }

    void addJob() {
        order.add(jobs());
        times.add(new int[5]);
    }

    void setMachines(int count) {
        machines = count;
        for (int[] row : times) {
            for (int machine = count; machine < 5; machine++) {
                row[machine] = 0;
            }
        }
    }

    static List<Integer> moved(List<Integer> list, int from, int to) {
        List<Integer> result = new ArrayList<>(list);
        Integer job = result.remove(from);
        result.add(to, job);
        return result;
    }

    /** Raises begins as long as one of the document's conditions does not hold. */
    int[][] begins(int variant, List<Integer> list) {
        if (variant == 2) {
            return beginsWithoutWaiting(list);
        }
        int[][] begins = new int[list.size()][machines];
        boolean raised = true;
        while (raised) {
            raised = false;
            for (int place = list.size() - 1; place >= 0; place--) {
                for (int machine = machines - 1; machine >= 0; machine--) {
                    int least = 0;
                    if (machine > 0) {
                        least = Math.max(least, begins[place][machine - 1] + times.get(list.get(place))[machine - 1]);
                    }
                    if (place > 0) {
                        int before = begins[place - 1][machine] + times.get(list.get(place - 1))[machine];
                        if (variant == 1 && machine + 1 < machines) {
                            before = Math.max(before, begins[place - 1][machine + 1]);
                        }
                        least = Math.max(least, before);
                    }
                    if (begins[place][machine] < least) {
                        begins[place][machine] = least;
                        raised = true;
                    }
                }
            }
        }
        return begins;
    }

    /** Lets each job begin a moment later as long as it meets the one before it on a machine. */
    private int[][] beginsWithoutWaiting(List<Integer> list) {
        int[][] begins = new int[list.size()][machines];
        for (int place = 0; place < list.size(); place++) {
            int start = 0;
            while (!fits(list, begins, place, start)) {
                start++;
            }
        }
        return begins;
    }

    private boolean fits(List<Integer> list, int[][] begins, int place, int start) {
        int moment = start;
        for (int machine = 0; machine < machines; machine++) {
            begins[place][machine] = moment;
            if (place > 0 && moment < begins[place - 1][machine] + times.get(list.get(place - 1))[machine]) {
                return false;
            }
            moment += times.get(list.get(place))[machine];
        }
        return true;
    }

    int end(int variant, List<Integer> list, int place, int machine) {
        return begins(variant, list)[place][machine] + times.get(list.get(place))[machine];
    }

    int makespan(int variant, List<Integer> list) {
        return list.isEmpty() ? 0 : end(variant, list, list.size() - 1, machines - 1);
    }

    int totalTime() {
        int total = 0;
        for (int place = 0; place < jobs(); place++) {
            total += end(0, order, place, machines - 1);
        }
        return total;
    }

    int tail(int place, int machine) {
        if (place >= jobs() || machine >= machines) {
            return 0;
        }
        return times.get(order.get(place))[machine] + Math.max(tail(place, machine + 1), tail(place + 1, machine));
    }

    boolean isCritical(int place, int machine) {
        return end(0, order, place, machine) + tail(place, machine) - times.get(order.get(place))[machine]
            == makespan(0, order);
    }

    int idle(int variant, int machine) {
        if (jobs() == 0) {
            return 0;
        }
        int idle = end(variant, order, jobs() - 1, machine) - begins(variant, order)[0][machine];
        for (int[] row : times) {
            idle -= row[machine];
        }
        return idle;
    }

    private int sum(int job, int from, int to) {
        int sum = 0;
        for (int machine = from; machine < to; machine++) {
            sum += times.get(job)[machine];
        }
        return sum;
    }

    private int leastSum(int from, int to) {
        int least = Integer.MAX_VALUE;
        for (int job = 0; job < jobs(); job++) {
            least = Math.min(least, sum(job, from, to));
        }
        return least;
    }

    int machineBound(int machine) {
        if (jobs() == 0) {
            return 0;
        }
        int bound = leastSum(0, machine) + leastSum(machine + 1, machines);
        for (int[] row : times) {
            bound += row[machine];
        }
        return bound;
    }

    /** Of two machines the model tries all orders; it does not know the rule. */
    int pairBound(int first, int second) {
        if (jobs() == 0) {
            return 0;
        }
        Model pair = new Model();
        for (int job = 0; job < jobs(); job++) {
            pair.addJob();
            pair.times.get(job)[0] = times.get(job)[first];
            pair.times.get(job)[1] = times.get(job)[second];
        }
        return pair.best(0).makespan + leastSum(0, first) + leastSum(second + 1, machines);
    }

    Best best(int variant) {
        Best best = new Best();
        best.makespan = Integer.MAX_VALUE;
        tryAll(variant, new ArrayList<>(), best);
        return best;
    }

    private void tryAll(int variant, List<Integer> chosen, Best best) {
        if (chosen.size() == jobs()) {
            int makespan = makespan(variant, chosen);
            if (makespan < best.makespan) {
                best.makespan = makespan;
                best.count = 0;
                best.first = text(chosen);
            }
            best.count += makespan == best.makespan ? 1 : 0;
            return;
        }
        for (int job = 0; job < jobs(); job++) {
            if (!chosen.contains(job)) {
                chosen.add(job);
                tryAll(variant, chosen, best);
                chosen.remove(chosen.size() - 1);
            }
        }
    }

    static String text(List<Integer> list) {
        StringBuilder text = new StringBuilder();
        for (int job : list) {
            text.append(job);
        }
        return text.toString();
    }

    double gap() {
        int least = best(0).makespan;
        return least == 0 ? 0.0 : (double) (makespan(0, order) - least) / (double) least;
    }

    void orderByRule() {
        List<Integer> early = new ArrayList<>();
        List<Integer> late = new ArrayList<>();
        for (int job = 0; job < jobs(); job++) {
            (times.get(job)[0] <= times.get(job)[1] ? early : late).add(job);
        }
        early.sort((one, other) -> times.get(one)[0] != times.get(other)[0]
            ? times.get(one)[0] - times.get(other)[0] : one - other);
        late.sort((one, other) -> times.get(one)[1] != times.get(other)[1]
            ? times.get(other)[1] - times.get(one)[1] : one - other);
        order = early;
        order.addAll(late);
    }

    void orderByInsertion() {
        List<Integer> queue = new ArrayList<>();
        for (int job = 0; job < jobs(); job++) {
            queue.add(job);
        }
        queue.sort((one, other) -> sum(one, 0, machines) != sum(other, 0, machines)
            ? sum(other, 0, machines) - sum(one, 0, machines) : one - other);
        order = new ArrayList<>();
        for (Integer job : queue) {
            List<Integer> least = null;
            for (int place = order.size(); place >= 0; place--) {
                List<Integer> longer = new ArrayList<>(order);
                longer.add(place, job);
                if (least == null || makespan(0, longer) <= makespan(0, least)) {
                    least = longer;
                }
            }
            order = least;
        }
    }

    int improve() {
        int before = makespan(0, order);
        List<Integer> least = order;
        for (int from = jobs() - 1; from >= 0; from--) {
            for (int to = jobs() - 1; to >= 0; to--) {
                List<Integer> changed = moved(order, from, to);
                int after = makespan(0, changed);
                if (from != to && after < before && after <= makespan(0, least)) {
                    least = changed;
                }
            }
        }
        order = least;
        return before - makespan(0, order);
    }
}
