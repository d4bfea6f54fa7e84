import java.util.ArrayList;
import java.util.List;

/** What an argument is a number of. */
enum Room {
    JOB, PLACE, MACHINE, VARIANT;

    /** The numbers from 0 up to this one, but without it, are right. */
    int count(Flowforge shop) {
        return switch (this) {
            case JOB, PLACE -> shop.jobs();
            case MACHINE -> shop.machines();
            case VARIANT -> 3;
        };
    }

    /** The first and the last right number; none if there is none. */
    List<Integer> inside(Flowforge shop) {
        List<Integer> values = new ArrayList<>();
        int count = count(shop);
        if (count > 0) {
            values.add(0);
        }
        if (count > 1) {
            values.add(count - 1);
        }
        return values;
    }

    /**
     * Just outside, the least and the greatest int, what the tables have room for all the same, and what would be
     * taken for right if it were cut to a byte or a short, or if 5 or 7 times the number were wrapped around.
     */
    List<Integer> outside(Flowforge shop) {
        int count = count(shop);
        List<Integer> values = new ArrayList<>();
        for (int value : new int[] {-1, count, Integer.MIN_VALUE, Integer.MAX_VALUE, 5, 7, 256, 65536,
            858993460, 613566757}) {
            if ((value < 0 || value >= count) && !values.contains(value)) {
                values.add(value);
            }
        }
        return values;
    }
}
