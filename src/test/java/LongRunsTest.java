/** All promises: runs of 512 calls on one object, right and wrong ones mixed, each compared with the model. */
final class LongRunsTest {
    private static final int CALLS = 512;
    private static final int RUNS = 60;

    private static final Check CHECK = new Check("LongRunsTest");

    private final String name;
    private final int span;
    private final boolean growing;
    private final Flowforge shop = new Flowforge();
    private final Model model = new Model();
    private int seed;

    private LongRunsTest(int run) {
        name = "run " + run;
        seed = 7919 * run + 17;
        // Small times make many equal makespans, large ones make few.
        span = run % 3 == 0 ? 3 : run % 3 == 1 ? 12 : 100;
        growing = run % 4 != 0;
    }

    public static void main(String[] args) {
        for (int run = 0; run < RUNS; run++) {
            new LongRunsTest(run).go();
        }
        CHECK.end();
    }

    /** A number below a bound; the same ones in each run of the test. */
    private int draw(int bound) {
        seed = seed * 1103515245 + 12345;
        return (seed >>> 8) % bound;
    }

    /** Mostly a number below the count, now and then one beyond. */
    private int drawAround(int count) {
        int kind = draw(14);
        if (kind == 0) {
            return -1 - draw(2);
        }
        if (kind == 1) {
            return count + draw(2);
        }
        return count == 0 ? 0 : draw(count);
    }

    private void go() {
        if (growing) {
            int jobs = 2 + draw(6);
            model.setMachines(1 + draw(5));
            shop.setMachines(model.machines);
            for (int job = 0; job < jobs; job++) {
                addJob();
                for (int machine = 0; machine < model.machines; machine++) {
                    model.times.get(job)[machine] = draw(span);
                    shop.setTime(job, machine, model.times.get(job)[machine]);
                }
            }
        }
        int calls = growing ? 1 + model.jobs() * (1 + model.machines) : 0;
        for (; calls < CALLS; calls++) {
            call(draw(growing ? 40 : 46));
        }
    }

    private void call(int kind) {
        if (kind < 8) {
            setTime();
        } else if (kind < 9) {
            setMachines();
        } else if (kind < 20) {
            changeOrder(kind);
        } else if (kind < 32) {
            readSchedule(kind);
        } else if (kind < 40) {
            readBounds(kind);
        } else {
            addJob();
        }
    }

    private void same(String call, Object want, Call got) {
        Object answer;
        try {
            answer = got.answer();
        } catch (RuntimeException e) {
            answer = e.getClass().getSimpleName();
        }
        CHECK.same(name + " " + call, want, answer);
    }

    private interface Call {
        Object answer();
    }

    private boolean isJob(int job) {
        return job >= 0 && job < model.jobs();
    }

    private boolean isMachine(int machine) {
        return machine >= 0 && machine < model.machines;
    }

    private void addJob() {
        if (model.jobs() == 7) {
            same("addJob()", "IllegalStateException", shop::addJob);
            return;
        }
        same("addJob()", model.jobs(), shop::addJob);
        model.addJob();
    }

    private void setMachines() {
        int machines = draw(7);
        Object want = machines < 1 || machines > 5 ? "IllegalArgumentException" : (Object) model.machines;
        same("setMachines(" + machines + ")", want, () -> shop.setMachines(machines));
        if (machines >= 1 && machines <= 5) {
            model.setMachines(machines);
        }
    }

    private void setTime() {
        int job = drawAround(model.jobs());
        int machine = drawAround(model.machines);
        int time = draw(12) == 0 ? (draw(2) == 0 ? -1 : 100) : draw(span);
        Object want;
        if (!isJob(job) || !isMachine(machine)) {
            want = "IndexOutOfBoundsException";
        } else if (time < 0 || time > 99) {
            want = "IllegalArgumentException";
        } else {
            want = model.times.get(job)[machine];
            model.times.get(job)[machine] = time;
        }
        same("setTime(" + job + ", " + machine + ", " + time + ")", want, () -> shop.setTime(job, machine, time));
    }

    private void changeOrder(int kind) {
        int job = drawAround(model.jobs());
        int place = drawAround(model.jobs());
        boolean fits = isJob(job) && isJob(place);
        String wrong = "IndexOutOfBoundsException";
        switch (kind) {
            case 9, 10, 11:
                same("move(" + job + ", " + place + ")", fits ? model.order.indexOf(job) : wrong, () -> shop.move(job, place));
                if (fits) {
                    model.order = Model.moved(model.order, model.order.indexOf(job), place);
                }
                break;
            case 12, 13:
                same("makespanIfMoved(" + job + ", " + place + ")",
                    fits ? model.makespan(0, Model.moved(model.order, model.order.indexOf(job), place)) : wrong,
                    () -> shop.makespanIfMoved(job, place));
                break;
            case 14:
                orderByRule();
                break;
            case 15:
                model.orderByInsertion();
                same("orderByInsertion()", model.makespan(0, model.order), shop::orderByInsertion);
                break;
            case 16, 17:
                same("improve()", model.improve(), shop::improve);
                break;
            default:
                same("jobAt(" + place + ")", isJob(place) ? model.order.get(place) : wrong, () -> shop.jobAt(place));
                break;
        }
    }

    private void orderByRule() {
        if (model.machines != 2) {
            same("orderByRule()", "IllegalStateException", shop::orderByRule);
            return;
        }
        model.orderByRule();
        same("orderByRule()", model.makespan(0, model.order), shop::orderByRule);
    }

    private void readSchedule(int kind) {
        int variant = drawAround(3);
        int place = drawAround(model.jobs());
        int machine = drawAround(model.machines);
        boolean right = variant >= 0 && variant < 3;
        boolean fits = isJob(place) && isMachine(machine);
        String wrong = "IndexOutOfBoundsException";
        String wrongVariant = "IllegalArgumentException";
        String where = "(" + place + ", " + machine + ")";
        switch (kind) {
            case 20, 21:
                same("makespan(" + variant + ")",
                    right ? model.makespan(variant, model.order) : wrongVariant, () -> shop.makespan(variant));
                break;
            case 22, 23, 24:
                same("begin(" + variant + ", " + place + ", " + machine + ")",
                    !right ? wrongVariant : !fits ? wrong : model.begins(variant, model.order)[place][machine],
                    () -> shop.begin(variant, place, machine));
                break;
            case 25:
                same("totalTime()", model.totalTime(), shop::totalTime);
                break;
            case 26:
                same("head" + where, fits ? model.end(0, model.order, place, machine) : wrong,
                    () -> shop.head(place, machine));
                break;
            case 27:
                same("tail" + where, fits ? model.tail(place, machine) : wrong, () -> shop.tail(place, machine));
                break;
            case 28, 29:
                same("isCritical" + where, fits ? model.isCritical(place, machine) : wrong,
                    () -> shop.isCritical(place, machine));
                break;
            default:
                same("idle(" + variant + ", " + machine + ")",
                    !right ? wrongVariant : !isMachine(machine) ? wrong : model.idle(variant, machine),
                    () -> shop.idle(variant, machine));
                break;
        }
    }

    private void readBounds(int kind) {
        int variant = drawAround(3);
        int place = drawAround(model.jobs());
        int first = drawAround(model.machines);
        int second = drawAround(model.machines);
        boolean right = variant >= 0 && variant < 3;
        String wrong = "IndexOutOfBoundsException";
        String wrongArgument = "IllegalArgumentException";
        switch (kind) {
            case 32:
                same("best(" + variant + ")", right ? model.best(variant).makespan : wrongArgument,
                    () -> shop.best(variant));
                break;
            case 33:
                same("bestAt(" + variant + ", " + place + ")",
                    !right ? wrongArgument : !isJob(place) ? wrong : model.best(variant).first.charAt(place) - '0',
                    () -> shop.bestAt(variant, place));
                break;
            case 34:
                same("bestOrders(" + variant + ")", right ? model.best(variant).count : wrongArgument,
                    () -> shop.bestOrders(variant));
                break;
            case 35:
                same("gap()", model.gap(), shop::gap);
                break;
            case 36:
                same("machineBound(" + first + ")", isMachine(first) ? model.machineBound(first) : wrong,
                    () -> shop.machineBound(first));
                break;
            case 37:
                same("pairBound(" + first + ", " + second + ")",
                    !isMachine(first) || !isMachine(second) ? wrong
                        : first >= second ? wrongArgument : (Object) model.pairBound(first, second),
                    () -> shop.pairBound(first, second));
                break;
            case 38:
                same("time(" + place + ", " + first + ")",
                    isJob(place) && isMachine(first) ? model.times.get(place)[first] : wrong,
                    () -> shop.time(place, first));
                break;
            default:
                same("jobs()", model.jobs(), shop::jobs);
                same("machines()", model.machines, shop::machines);
                break;
        }
    }
}
