/** Makes objects for tests and reads them out. */
final class Shops {
    private Shops() {
    }

    /** A shop with a row of times for each job. */
    static Flowforge of(int machines, int[]... rows) {
        Flowforge shop = new Flowforge();
        shop.setMachines(machines);
        for (int[] row : rows) {
            int job = shop.addJob();
            for (int machine = 0; machine < row.length; machine++) {
                shop.setTime(job, machine, row[machine]);
            }
        }
        return shop;
    }

    static int[] row(int... times) {
        return times;
    }

    /** A new shop with the same machines, jobs, times and order. */
    static Flowforge copy(Flowforge shop) {
        int jobs = shop.jobs();
        int machines = shop.machines();
        int[][] rows = new int[jobs][machines];
        int[] order = new int[jobs];
        for (int job = 0; job < jobs; job++) {
            for (int machine = 0; machine < machines; machine++) {
                rows[job][machine] = shop.time(job, machine);
            }
            order[job] = shop.jobAt(job);
        }
        Flowforge copy = of(machines, rows);
        arrange(copy, order);
        return copy;
    }

    static void arrange(Flowforge shop, int... jobs) {
        for (int place = 0; place < jobs.length; place++) {
            shop.move(jobs[place], place);
        }
    }

    static String order(Flowforge shop) {
        StringBuilder text = new StringBuilder();
        int jobs = shop.jobs();
        for (int place = 0; place < jobs; place++) {
            text.append(shop.jobAt(place));
        }
        return text.toString();
    }

    static String bestOrder(Flowforge shop, int variant) {
        StringBuilder text = new StringBuilder();
        int jobs = shop.jobs();
        for (int place = 0; place < jobs; place++) {
            text.append(shop.bestAt(variant, place));
        }
        return text.toString();
    }

    /** The begins of a variant: a group for each place, a number for each machine. */
    static String begins(Flowforge shop, int variant) {
        StringBuilder text = new StringBuilder();
        for (int place = 0; place < shop.jobs(); place++) {
            for (int machine = 0; machine < shop.machines(); machine++) {
                text.append(machine == 0 ? (place == 0 ? "" : " | ") : " ").append(shop.begin(variant, place, machine));
            }
        }
        return text.toString();
    }

    /** All that the state of a shop can be told by: machines, jobs, order and times. */
    static String state(Flowforge shop) {
        StringBuilder text = new StringBuilder();
        text.append(shop.machines()).append(" machines, order ").append(order(shop)).append(", times");
        for (int job = 0; job < shop.jobs(); job++) {
            text.append(" |");
            for (int machine = 0; machine < shop.machines(); machine++) {
                text.append(' ').append(shop.time(job, machine));
            }
        }
        for (int variant = 0; variant < 3; variant++) {
            text.append(", ").append(shop.best(variant)).append('x').append(shop.bestOrders(variant));
            text.append(' ').append(bestOrder(shop, variant)).append(' ').append(shop.makespan(variant));
        }
        return text.toString();
    }
}
