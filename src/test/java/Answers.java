import java.util.ArrayList;
import java.util.List;

/** Reads out all that a shop answers; with 7 jobs and 5 machines that takes some 370 of its 512 calls. */
final class Answers {
    private final Flowforge shop;
    // Asked once and no more: each question is one of the 512 calls.
    private final int jobs;
    private final int machines;
    private final List<String> answers = new ArrayList<>();

    private Answers(Flowforge shop) {
        this.shop = shop;
        jobs = shop.jobs();
        machines = shop.machines();
    }

    /** The answers of all calls that change nothing. */
    static List<String> all(Flowforge shop) {
        Answers answers = new Answers(shop);
        answers.addTimes();
        answers.addOrder("now");
        answers.addMoves();
        answers.addSchedules();
        answers.addPlaces();
        answers.addBounds();
        return answers.answers;
    }

    /** The answers of calls that change the shop, and all answers behind them. */
    static List<String> later(Flowforge shop) {
        Answers answers = new Answers(shop);
        answers.add("improve()", shop::improve);
        answers.addOrder("behind improve");
        answers.add("orderByInsertion()", shop::orderByInsertion);
        answers.addOrder("behind orderByInsertion");
        answers.add("orderByRule()", shop::orderByRule);
        answers.addOrder("behind orderByRule");
        answers.add("addJob()", shop::addJob);
        answers.add("setMachines(5)", () -> shop.setMachines(5));
        answers.add("move(0, 1)", () -> shop.move(0, 1));
        answers.answers.addAll(all(shop));
        return answers.answers;
    }

    /** Asks for what is dear to find, and so may be kept. */
    static void search(Flowforge shop) {
        for (int variant = 0; variant < 3; variant++) {
            shop.makespan(variant);
            shop.best(variant);
        }
        shop.gap();
    }

    /** The first answer that is another one; empty if all are the same. */
    static String difference(List<String> want, List<String> got) {
        for (int i = 0; i < Math.min(want.size(), got.size()); i++) {
            if (!want.get(i).equals(got.get(i))) {
                return got.get(i) + " instead of " + want.get(i);
            }
        }
        return want.size() == got.size() ? "" : got.size() + " answers instead of " + want.size();
    }

    private interface Call {
        Object answer();
    }

    private void add(String call, Call asked) {
        String answer;
        try {
            answer = String.valueOf(asked.answer());
        } catch (RuntimeException e) {
            answer = "throws " + e.getClass().getSimpleName();
        }
        answers.add(call + " = " + answer);
    }

    private void addTimes() {
        answers.add("jobs() = " + jobs);
        answers.add("machines() = " + machines);
        for (int job = 0; job < jobs; job++) {
            for (int machine = 0; machine < machines; machine++) {
                answers.add("time(" + job + ", " + machine + ") = " + shop.time(job, machine));
            }
        }
    }

    private void addOrder(String when) {
        answers.add("order " + when + " = " + Shops.order(shop));
    }

    private void addMoves() {
        for (int job = 0; job < jobs; job++) {
            for (int place = 0; place < jobs; place++) {
                answers.add("makespanIfMoved(" + job + ", " + place + ") = " + shop.makespanIfMoved(job, place));
            }
        }
    }

    private void addSchedules() {
        for (int variant = 0; variant < 3; variant++) {
            answers.add("makespan(" + variant + ") = " + shop.makespan(variant));
            for (int machine = 0; machine < machines; machine++) {
                answers.add("idle(" + variant + ", " + machine + ") = " + shop.idle(variant, machine));
            }
        }
        answers.add("totalTime() = " + shop.totalTime());
    }

    private void addPlaces() {
        for (int place = 0; place < jobs; place++) {
            for (int machine = 0; machine < machines; machine++) {
                String where = "(" + place + ", " + machine + ") = ";
                answers.add("head" + where + shop.head(place, machine));
                answers.add("tail" + where + shop.tail(place, machine));
                answers.add("isCritical" + where + shop.isCritical(place, machine));
                for (int variant = 0; variant < 3; variant++) {
                    answers.add("begin of variant " + variant + " " + where + shop.begin(variant, place, machine));
                }
            }
        }
    }

    private void addBounds() {
        for (int machine = 0; machine < machines; machine++) {
            answers.add("machineBound(" + machine + ") = " + shop.machineBound(machine));
            for (int second = machine + 1; second < machines; second++) {
                answers.add("pairBound(" + machine + ", " + second + ") = " + shop.pairBound(machine, second));
            }
        }
        for (int variant = 0; variant < 3; variant++) {
            answers.add("best(" + variant + ") = " + shop.best(variant));
            answers.add("bestOrders(" + variant + ") = " + shop.bestOrders(variant));
            answers.add("best order of variant " + variant + " = " + Shops.bestOrder(shop, variant));
        }
        answers.add("gap() = " + shop.gap());
    }
}
