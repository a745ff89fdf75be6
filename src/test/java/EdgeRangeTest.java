/**
 * Too small and too large: for each argument that has a range, the last values that are allowed and
 * the first that are not, at both ends, and the ends of an int. Each row is one clause of a "Throws".
 */
final class EdgeRangeTest {
    private static final Class<? extends RuntimeException> INDEX = Check.INDEX;
    private static final Class<? extends RuntimeException> ARGUMENT = Check.ARGUMENT;

    private EdgeRangeTest() {
    }

    public static void main(String[] args) {
        landsAreAsTold();
        promise02Field();
        promise03Crop();
        promise04Combine();
        promise05Truck();
        promise06Elevator();
        promise06ElevatorByTwo();
        promise07Price();
        promise08Cut();
        promise09Fetch();
        promise10Haul();
        promise11Stop();
        promise12Mend();
        promise13Train();
        promise14Pass();
        promise15To20Asked();
        promise22ReadyIn();
        promise23NextField();
        promise24Waiting();
        Check.end();
    }

    /** In the land of these rows numbers 0 and 1 are told of each, and every one is at work. */
    private static void landsAreAsTold() {
        WheatRun x = Lands.half();
        int[] want = {12, 2, 160 - 20 - 13, 2, 0, 2, 2, 2, 1120, 800, 790};
        for (int what = 0; what <= 10; what++) {
            Check.due("many(" + what + ") of half a land", x.many(what), want[what]);
        }
    }

    /** The range of the argument numbered at, the others being as in the valid call. */
    private static void range(Class<? extends RuntimeException> kind, int at, int least, int greatest, Face call, int... valid) {
        for (int value : new int[] {least, greatest}) {
            Lands.dueAllowed(Lands::half, call, changed(valid, at, value));
        }
        for (int value : new int[] {least - 1, greatest + 1, Integer.MIN_VALUE, Integer.MAX_VALUE}) {
            Lands.dueRefused(Lands::half, kind, call, changed(valid, at, value));
        }
    }

    private static int[] changed(int[] valid, int at, int value) {
        int[] arguments = valid.clone();
        arguments[at] = value;
        return arguments;
    }

    private static void promise02Field() {
        int[] valid = {0, 20, 50, 30, 10};
        range(INDEX, 0, 0, 3, Face.FIELD, valid);
        range(ARGUMENT, 1, 0, 300, Face.FIELD, valid);
        range(ARGUMENT, 2, 1, 200, Face.FIELD, valid);
        range(ARGUMENT, 3, 10, 90, Face.FIELD, valid);
        range(ARGUMENT, 4, 0, 50, Face.FIELD, valid);
    }

    private static void promise03Crop() {
        int[] valid = {0, 50, 20};
        range(INDEX, 0, 0, 1, Face.CROP, valid);
        range(ARGUMENT, 1, 0, 100, Face.CROP, valid);
        range(ARGUMENT, 2, 5, 40, Face.CROP, valid);
    }

    private static void promise04Combine() {
        range(ARGUMENT, 0, 0, 300, Face.COMBINE, 20, 5);
        range(ARGUMENT, 1, 1, 20, Face.COMBINE, 20, 5);
    }

    private static void promise05Truck() {
        range(ARGUMENT, 0, 0, 300, Face.TRUCK, 20);
    }

    private static void promise06Elevator() {
        int[] valid = {20, 500, 8, 18, 12, 20};
        range(ARGUMENT, 0, 0, 300, Face.ELEVATOR, valid);
        range(ARGUMENT, 1, 0, 9999, Face.ELEVATOR, valid);
        range(ARGUMENT, 2, 0, 23, Face.ELEVATOR, valid);
        range(ARGUMENT, 3, 0, 23, Face.ELEVATOR, valid);
        range(ARGUMENT, 4, 5, 40, Face.ELEVATOR, 20, 500, 8, 18, 12, 40);
        range(ARGUMENT, 5, 12, 40, Face.ELEVATOR, valid);
    }

    /** "both are the same", "greatest less than least": what two arguments make wrong together. */
    private static void promise06ElevatorByTwo() {
        for (int from = 0; from < 24; from++) {
            Lands.dueRefused(Lands::half, ARGUMENT, Face.ELEVATOR, 20, 500, from, from, 12, 20);
            Lands.dueAllowed(Lands::half, Face.ELEVATOR, 20, 500, from, (from + 1) % 24, 12, 20);
            Lands.dueAllowed(Lands::half, Face.ELEVATOR, 20, 500, from, (from + 23) % 24, 12, 20);
        }
        for (int least = 5; least <= 40; least++) {
            Lands.dueRefused(Lands::half, ARGUMENT, Face.ELEVATOR, 20, 500, 8, 18, least, least - 1);
            Lands.dueAllowed(Lands::half, Face.ELEVATOR, 20, 500, 8, 18, least, least);
        }
        Lands.dueRefused(Lands::half, ARGUMENT, Face.ELEVATOR, 20, 500, 8, 18, 41, 41);
        Lands.dueRefused(Lands::half, ARGUMENT, Face.ELEVATOR, 20, 500, 8, 18, 4, 4);
    }

    private static void promise07Price() {
        range(ARGUMENT, 0, 1, 999, Face.PRICE, 400);
    }

    /** A field that is NONE is allowed; a COMBINE or what is below NONE is not. */
    private static void promise08Cut() {
        range(INDEX, 0, 0, 1, Face.CUT, 0, 1);
        range(INDEX, 1, -1, 1, Face.CUT, 0, 1);
    }

    private static void promise09Fetch() {
        range(INDEX, 0, 0, 1, Face.FETCH, 0, 1);
        range(INDEX, 1, 0, 1, Face.FETCH, 0, 1);
    }

    private static void promise10Haul() {
        range(INDEX, 0, 0, 1, Face.HAUL, 0, 1);
        range(INDEX, 1, 0, 1, Face.HAUL, 0, 1);
    }

    private static void promise11Stop() {
        range(INDEX, 0, 0, 1, Face.STOP, 0);
    }

    private static void promise12Mend() {
        range(INDEX, 0, 0, 1, Face.MEND, 0);
    }

    private static void promise13Train() {
        range(INDEX, 0, 0, 1, Face.TRAIN, 0, 100);
        range(ARGUMENT, 1, 1, 9999, Face.TRAIN, 0, 100);
    }

    private static void promise14Pass() {
        int[] valid = {2, 20, 50, 0};
        range(ARGUMENT, 0, 1, 48, Face.PASS, valid);
        range(ARGUMENT, 1, 0, 45, Face.PASS, valid);
        range(ARGUMENT, 2, 0, 100, Face.PASS, valid);
        range(ARGUMENT, 3, 0, 20, Face.PASS, valid);
    }

    private static void promise15To20Asked() {
        range(INDEX, 0, 0, 1, Face.OF_FIELD, 0, 0);
        range(ARGUMENT, 1, 0, 11, Face.OF_FIELD, 0, 0);
        range(INDEX, 0, 0, 1, Face.OF_COMBINE, 0, 0);
        range(ARGUMENT, 1, 0, 7, Face.OF_COMBINE, 0, 0);
        range(INDEX, 0, 0, 1, Face.OF_TRUCK, 0, 0);
        range(ARGUMENT, 1, 0, 7, Face.OF_TRUCK, 0, 0);
        range(INDEX, 0, 0, 1, Face.OF_TICKET, 0, 0);
        range(ARGUMENT, 1, 0, 6, Face.OF_TICKET, 0, 0);
        range(INDEX, 0, 0, 3, Face.OWED, 0, 0);
        range(INDEX, 0, 0, 3, Face.OWED, 0, 1);
        range(ARGUMENT, 0, 0, 12, Face.MANY, 0);
    }

    private static void promise22ReadyIn() {
        int[] valid = {0, 20, 50};
        range(INDEX, 0, 0, 1, Face.READY_IN, valid);
        range(ARGUMENT, 1, 0, 45, Face.READY_IN, valid);
        range(ARGUMENT, 2, 0, 100, Face.READY_IN, valid);
    }

    private static void promise23NextField() {
        int[] valid = {0, 5, 20, 50};
        range(INDEX, 0, 0, 1, Face.NEXT_FIELD, valid);
        range(ARGUMENT, 1, 1, 48, Face.NEXT_FIELD, valid);
        range(ARGUMENT, 2, 0, 45, Face.NEXT_FIELD, valid);
        range(ARGUMENT, 3, 0, 100, Face.NEXT_FIELD, valid);
    }

    private static void promise24Waiting() {
        int[] valid = {0, 5, 20, 50, 0};
        range(INDEX, 0, 0, 1, Face.WAITING, valid);
        range(ARGUMENT, 1, 1, 48, Face.WAITING, valid);
        range(ARGUMENT, 2, 0, 45, Face.WAITING, valid);
        range(ARGUMENT, 3, 0, 100, Face.WAITING, valid);
        range(ARGUMENT, 4, 0, 20, Face.WAITING, valid);
    }
}
