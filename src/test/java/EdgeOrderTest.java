import java.util.function.Supplier;

/**
 * "A method that throws an exception changes nothing. If several exceptions apply, the one that is
 * named first is thrown.": each call that names several, with each two of them that can apply at once;
 * and each state that is refused.
 */
final class EdgeOrderTest {
    private static final Class<? extends RuntimeException> INDEX = Check.INDEX;
    private static final Class<? extends RuntimeException> ARGUMENT = Check.ARGUMENT;
    private static final Class<? extends RuntimeException> STATE = Check.STATE;

    private EdgeOrderTest() {
    }

    public static void main(String[] args) {
        promise02Field();
        promise03Crop();
        promise04And05Machines();
        promise06Elevator();
        promise12Mend();
        promise13Train();
        promise14Pass();
        promise14PassBeyondAtAll();
        promise15To18Asked();
        promise22To24WouldBe();
        refusedManyTimes();
        Check.end();
    }

    private static void due(Supplier<WheatRun> land, Class<? extends RuntimeException> kind, Face call, int... arguments) {
        Lands.dueRefused(land, kind, call, arguments);
    }

    private static void promise02Field() {
        due(Lands::half, INDEX, Face.FIELD, 4, -1, 1, 10, 0);
        due(Lands::half, INDEX, Face.FIELD, -1, 0, 201, 10, 0);
        due(Lands::half, INDEX, Face.FIELD, 4, 0, 1, 9, 0);
        due(Lands::half, INDEX, Face.FIELD, -1, 0, 1, 10, 51);
        due(Lands::full, INDEX, Face.FIELD, 4, 0, 1, 10, 0);
        due(Lands::full, INDEX, Face.FIELD, -1, 301, 0, 91, -1);
        due(Lands::full, ARGUMENT, Face.FIELD, 0, 301, 1, 10, 0);
        due(Lands::full, ARGUMENT, Face.FIELD, 0, 0, 0, 10, 0);
        due(Lands::full, ARGUMENT, Face.FIELD, 0, 0, 1, 91, 0);
        due(Lands::full, ARGUMENT, Face.FIELD, 0, 0, 1, 10, -1);
        due(Lands::full, STATE, Face.FIELD, 0, 0, 1, 10, 0);
        due(Lands::full, STATE, Face.FIELD, 3, 300, 200, 90, 50);
    }

    private static void promise03Crop() {
        due(Lands::half, INDEX, Face.CROP, 2, 101, 5);
        due(Lands::half, INDEX, Face.CROP, -1, 0, 4);
        due(Lands::half, INDEX, Face.CROP, 2, -1, 41);
        due(Lands::full, INDEX, Face.CROP, 8, 101, 41);
        due(WheatRun::new, INDEX, Face.CROP, 0, 101, 41);
    }

    private static void promise04And05Machines() {
        due(Lands::full, ARGUMENT, Face.COMBINE, 301, 1);
        due(Lands::full, ARGUMENT, Face.COMBINE, 0, 21);
        due(Lands::full, ARGUMENT, Face.COMBINE, -1, 0);
        due(Lands::full, STATE, Face.COMBINE, 0, 1);
        due(Lands::full, STATE, Face.COMBINE, 300, 20);
        due(Lands::full, ARGUMENT, Face.TRUCK, 301);
        due(Lands::full, ARGUMENT, Face.TRUCK, -1);
        due(Lands::full, STATE, Face.TRUCK, 0);
        due(Lands::full, STATE, Face.TRUCK, 300);
    }

    private static void promise06Elevator() {
        due(Lands::full, ARGUMENT, Face.ELEVATOR, 301, 0, 0, 23, 5, 40);
        due(Lands::full, ARGUMENT, Face.ELEVATOR, 0, 10000, 0, 23, 5, 40);
        due(Lands::full, ARGUMENT, Face.ELEVATOR, 0, 0, -1, 23, 5, 40);
        due(Lands::full, ARGUMENT, Face.ELEVATOR, 0, 0, 0, 24, 5, 40);
        due(Lands::full, ARGUMENT, Face.ELEVATOR, 0, 0, 7, 7, 5, 40);
        due(Lands::full, ARGUMENT, Face.ELEVATOR, 0, 0, 0, 23, 4, 40);
        due(Lands::full, ARGUMENT, Face.ELEVATOR, 0, 0, 0, 23, 20, 19);
        due(Lands::full, ARGUMENT, Face.ELEVATOR, 0, 0, 0, 23, 5, 41);
        due(Lands::full, STATE, Face.ELEVATOR, 0, 0, 0, 23, 5, 40);
        due(Lands::full, STATE, Face.ELEVATOR, 300, 9999, 23, 0, 40, 40);
    }

    /** A COMBINE that is not there costs nothing, so it is refused as such, however little MONEY there is. */
    private static void promise12Mend() {
        WheatRun x = Lands.poor();
        Check.due("MONEY", x.many(8), 100);
        Check.due("WEAR", x.ofCombine(0, 3), 40);
        due(Lands::poor, STATE, Face.MEND, 0);
        due(Lands::poor, INDEX, Face.MEND, 1);
        due(Lands::poor, INDEX, Face.MEND, -1);
    }

    private static void promise13Train() {
        due(Lands::half, INDEX, Face.TRAIN, 2, 0);
        due(Lands::half, INDEX, Face.TRAIN, -1, 10000);
        due(WheatRun::new, INDEX, Face.TRAIN, 0, 0);
    }

    private static void promise14Pass() {
        Check.due("NOW", Lands.last().many(0), 2400);
        due(Lands::last, ARGUMENT, Face.PASS, 0, 0, 0, 0);
        due(Lands::last, ARGUMENT, Face.PASS, 49, 0, 0, 0);
        due(Lands::last, ARGUMENT, Face.PASS, Integer.MAX_VALUE, 0, 0, 0);
        due(Lands::last, ARGUMENT, Face.PASS, 1, 46, 0, 0);
        due(Lands::last, ARGUMENT, Face.PASS, 1, 0, 101, 0);
        due(Lands::last, ARGUMENT, Face.PASS, 1, 0, 0, 21);
        due(Lands::last, STATE, Face.PASS, 1, 0, 0, 0);
        due(Lands::last, STATE, Face.PASS, 48, 45, 100, 20);
    }

    /** A pass that would go beyond the last hour does not go up to it either. */
    private static void promise14PassBeyondAtAll() {
        for (int left : new int[] {0, 1, 46, 47}) {
            WheatRun x = Lands.half();
            WheatRun y = Lands.half();
            Lands.passTo(x, 2400 - left);
            Lands.passTo(y, 2400 - left);
            int tooMany = left + 1;
            Check.dueThrown(tooMany + " of " + left + " hours", x, STATE, () -> x.pass(tooMany, 30, 20, 10));
            Check.due("NOW", x.many(0), 2400 - left);
            if (left > 0) {
                Check.due("just as many", x.pass(left, 20, 50, 0), y.pass(left, 20, 50, 0));
                Check.due("NOW", x.many(0), 2400);
            }
            Lands.dueSame("after " + left, x, y);
        }
    }

    private static void promise15To18Asked() {
        Face[] calls = {Face.OF_FIELD, Face.OF_COMBINE, Face.OF_TRUCK, Face.OF_TICKET};
        for (Face call : calls) {
            due(Lands::half, INDEX, call, 2, 12);
            due(Lands::half, INDEX, call, -1, -1);
            due(WheatRun::new, INDEX, call, 0, 12);
            due(Lands::half, ARGUMENT, call, 1, 12);
        }
    }

    private static void promise22To24WouldBe() {
        due(Lands::half, INDEX, Face.READY_IN, 2, 46, 0);
        due(Lands::half, INDEX, Face.READY_IN, -1, 0, 101);
        due(Lands::half, INDEX, Face.NEXT_FIELD, 2, 0, 0, 0);
        due(Lands::half, INDEX, Face.NEXT_FIELD, -1, 1, 46, 0);
        due(Lands::half, INDEX, Face.NEXT_FIELD, 2, 1, 0, 101);
        due(Lands::half, INDEX, Face.WAITING, 2, 49, 0, 0, 0);
        due(Lands::half, INDEX, Face.WAITING, -1, 1, 46, 0, 0);
        due(Lands::half, INDEX, Face.WAITING, 2, 1, 0, 101, 0);
        due(Lands::half, INDEX, Face.WAITING, -1, 1, 0, 0, 21);
    }

    /** A call that is refused again and again never comes to be allowed, nor spoils what is. */
    private static void refusedManyTimes() {
        WheatRun x = Lands.full();
        for (int i = 0; i < 20; i++) {
            Check.dueThrown("field " + i, x, STATE, () -> x.field(0, 0, 1, 10, 0));
            Check.dueThrown("combine " + i, x, STATE, () -> x.combine(0, 1));
            Check.dueThrown("truck " + i, x, STATE, () -> x.truck(0));
            Check.dueThrown("elevator " + i, x, STATE, () -> x.elevator(0, 0, 0, 23, 5, 40));
        }
        Lands.dueSame("refused twenty times", x, Lands.full());
    }
}
