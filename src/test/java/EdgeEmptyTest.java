import java.math.BigInteger;

/** Empty: a new object, a land without one kind, nothing left to cut, nothing in a TANK or on a TRUCK. */
final class EdgeEmptyTest {
    private EdgeEmptyTest() {
    }

    public static void main(String[] args) {
        promise01NothingIsThere();
        promise01NothingToAsk();
        promise01NothingToDo();
        promise01NumbersFromZero();
        promise14HoursOfAnEmptyLand();
        promise25DigestOfAnEmptyLand();
        fieldsAlone();
        combinesAlone();
        combineWithoutField();
        trucksAlone();
        truckWithoutPlace();
        elevatorsAlone();
        noTicket();
        nothingLeftToCut();
        nothingLeftGoesOn();
        nothingBrought();
        nothingInTheTank();
        nothingLeftInTheTank();
        nothingOnTheTruck();
        oneBushelIsNotNothing();
        nothingInTheMap();
        Check.end();
    }

    private static void refused(Face call, int... arguments) {
        Lands.dueRefused(WheatRun::new, Check.INDEX, call, arguments);
    }

    /** "Creates a land without fields": and without all else; MONEY is 1000 at first. */
    private static void promise01NothingIsThere() {
        WheatRun x = new WheatRun();
        for (int what = 0; what <= 12; what++) {
            Check.due("many(" + what + ")", x.many(what), what == 8 ? 1000 : 0);
        }
        for (int farmer = 0; farmer < 4; farmer++) {
            Check.due("FARMER " + farmer, x.owed(farmer, false), 0);
            Check.due("LANDLORDS of " + farmer, x.owed(farmer, true), 0);
        }
        Check.dueExactly("meanDamp", x.meanDamp(), 0.0);
        Check.due("PRICE at first", x.price(1), 400);
    }

    /** "if there is no such FIELD", COMBINE, TRUCK, TICKET: on a new object there is none, not even 0. */
    private static void promise01NothingToAsk() {
        refused(Face.OF_FIELD, 0, 0);
        refused(Face.OF_COMBINE, 0, 0);
        refused(Face.OF_TRUCK, 0, 0);
        refused(Face.OF_TICKET, 0, 0);
        refused(Face.READY_IN, 0, 20, 50);
        refused(Face.NEXT_FIELD, 0, 1, 20, 50);
        refused(Face.WAITING, 0, 1, 20, 50, 0);
    }

    /** The same for what is told and done; a COMBINE that is not there can't even be sent to NONE. */
    private static void promise01NothingToDo() {
        refused(Face.CROP, 0, 50, 20);
        refused(Face.CUT, 0, 0);
        refused(Face.CUT, 0, -1);
        refused(Face.FETCH, 0, 0);
        refused(Face.HAUL, 0, 0);
        refused(Face.STOP, 0);
        refused(Face.MEND, 0);
        refused(Face.TRAIN, 0, 1);
    }

    /** "numbered from 0". */
    private static void promise01NumbersFromZero() {
        WheatRun x = new WheatRun();
        Check.due("FIELD", x.field(0, 0, 1, 10, 0), 0);
        Check.due("COMBINE", x.combine(0, 1), 0);
        Check.due("TRUCK", x.truck(0), 0);
        Check.due("ELEVATOR", x.elevator(0, 0, 0, 1, 5, 5), 0);
    }

    private static void promise14HoursOfAnEmptyLand() {
        WheatRun x = new WheatRun();
        Check.due("TICKETS in 48 hours", x.pass(48, 45, 100, 20), 0);
        Check.due("TICKETS in an hour", x.pass(1, 0, 0, 0), 0);
        for (int what = 0; what <= 12; what++) {
            int due = what == 0 ? 49 : what == 8 ? 1000 : 0;
            Check.due("many(" + what + ") then", x.many(what), due);
        }
    }

    /** Of 13 + 8 values all are 0 but MONEY, the ninth. */
    private static void promise25DigestOfAnEmptyLand() {
        BigInteger base = BigInteger.valueOf(31);
        BigInteger d = BigInteger.valueOf(7812).multiply(base.pow(21)).add(BigInteger.valueOf(1000).multiply(base.pow(12)));
        Check.due("digest", new WheatRun().digest(), d.longValue());
    }

    private static void fieldsAlone() {
        WheatRun x = new WheatRun();
        x.field(0, 0, 10, 10, 0);
        x.field(0, 0, 10, 10, 0);
        Check.dueThrown("no COMBINE to send", x, Check.INDEX, () -> x.cut(0, 0));
        Check.dueThrown("no COMBINE to ask", x, Check.INDEX, () -> x.nextField(0, 1, 0, 60));
        Check.due("sent there", x.ofField(1, 11), 0);
        x.crop(0, 80, 19);
        Lands.pass(x, 8);
        Check.due("ready without any COMBINE", x.readyIn(0, 0, 60), 0);
        Check.due("nothing lost", x.waiting(0, 48, 0, 60, 0), 0);
        Check.due("CUT", x.ofField(0, 3), 0);
        Check.dueThrown("the next FIELD", x, Check.INDEX, () -> x.ofField(2, 0));
    }

    /** "(NONE: to none)", "(0 for NONE)": NONE is a place to be sent to, even if there is no FIELD. */
    private static void combinesAlone() {
        WheatRun x = new WheatRun();
        x.combine(0, 1);
        Check.due("sent to NONE", x.cut(0, -1), 0);
        Check.dueThrown("no FIELD", x, Check.INDEX, () -> x.cut(0, 0));
        Check.due("no next FIELD", x.nextField(0, 48, 45, 0), -1);
        Check.due("mended", x.mend(0), 0);
        Check.dueThrown("no TRUCK", x, Check.INDEX, () -> x.fetch(0, 0));
        x.truck(7);
        Check.dueThrown("no such COMBINE", x, Check.INDEX, () -> x.fetch(0, 1));
        Check.due("a TRUCK", x.fetch(0, 0), 7);
    }

    /** "Without a FIELD: nothing": it neither goes nor waits. */
    private static void combineWithoutField() {
        WheatRun x = new WheatRun();
        x.combine(150, 1);
        x.field(0, 0, 10, 10, 0);
        x.crop(0, 80, 15);
        Lands.pass(x, 20);
        int[] want = {150, 0, -1, 0, 0, -1, 0, 0};
        for (int what = 0; what <= 7; what++) {
            Check.due("ofCombine(0, " + what + ")", x.ofCombine(0, what), want[what]);
        }
    }

    private static void trucksAlone() {
        WheatRun x = new WheatRun();
        x.truck(9);
        Check.dueThrown("no COMBINE", x, Check.INDEX, () -> x.fetch(0, 0));
        Check.dueThrown("no ELEVATOR", x, Check.INDEX, () -> x.haul(0, 0));
        Check.due("HOURS", x.stop(0), 0);
        Check.dueThrown("the next TRUCK", x, Check.INDEX, () -> x.stop(1));
    }

    /** "Without a place: nothing": without HOURS it does not rest either. */
    private static void truckWithoutPlace() {
        WheatRun x = new WheatRun();
        x.truck(9);
        x.combine(0, 1);
        x.elevator(0, 100, 0, 23, 5, 40);
        Lands.pass(x, 20);
        int[] want = {9, 0, -1, 0, 0, 0, 0, 0};
        for (int what = 0; what <= 7; what++) {
            Check.due("ofTruck(0, " + what + ")", x.ofTruck(0, what), want[what]);
        }
    }

    private static void elevatorsAlone() {
        WheatRun x = new WheatRun();
        x.elevator(0, 0, 0, 23, 5, 40);
        Check.dueThrown("no TRUCK", x, Check.INDEX, () -> x.haul(0, 0));
        Check.due("ROOM", x.train(0, 1), 1);
        x.truck(9);
        Check.dueThrown("no such ELEVATOR", x, Check.INDEX, () -> x.haul(0, 1));
        Check.due("a TRUCK", x.haul(0, 0), 9);
        Lands.pass(x, 48);
        Check.due("ROOM then", x.many(9), 1);
    }

    /** "if there is no such TICKET": each comes to be when it is written, not before. */
    private static void noTicket() {
        WheatRun x = Lands.ready(100, 10, 10);
        x.elevator(0, 500, 0, 23, 5, 40);
        x.fetch(0, 0);
        Lands.pass(x, 1);
        Check.dueThrown("none yet", x, Check.INDEX, () -> x.ofTicket(0, 0));
        x.haul(0, 0);
        Lands.pass(x, 1);
        Check.due("the first", x.ofTicket(0, 1), 100);
        Check.dueThrown("no second", x, Check.INDEX, () -> x.ofTicket(1, 0));
    }

    /** "no more than are not CUT", "or it can cut no acre: it waits". */
    private static void nothingLeftToCut() {
        WheatRun x = Lands.ready(3, 10, 3);
        Lands.pass(x, 1);
        Check.due("CUT", x.ofField(0, 3), 3);
        Check.due("ACRES that are not CUT", x.many(2), 0);
        Check.dueExactly("meanDamp", x.meanDamp(), 0.0);
        Check.due("IDLE", x.ofCombine(0, 7), 0);
        Lands.pass(x, 1);
        Check.due("IDLE as nothing is left", x.ofCombine(0, 7), 1);
        Check.due("acres", x.ofCombine(0, 6), 3);
        Check.due("nextField", x.nextField(0, 48, 0, 60), -1);
    }

    /** A FIELD that is all CUT ripens, dries and shatters on, but waiting costs nothing there. */
    private static void nothingLeftGoesOn() {
        WheatRun x = Lands.ready(3, 10, 3);
        Lands.pass(x, 5);
        Check.due("CUT", x.ofField(0, 3), 3);
        x.crop(0, 98, 14);
        x.pass(1, 30, 52, 0);
        Check.due("RIPE", x.ofField(0, 4), 100);
        Check.due("DAMP", x.ofField(0, 5), 13);
        Check.due("LOST", x.ofField(0, 6), 1);
        Check.due("readyIn", x.readyIn(0, 0, 52), 0);
        Check.due("waiting in rain", x.waiting(0, 48, 0, 52, 20), 0);
    }

    /** "if an acre BRINGS any": none from a FIELD that is all LOST, so that waiting costs nothing more. */
    private static void nothingBrought() {
        WheatRun x = Lands.shattered(200, 90, 100, 20);
        Check.due("waiting", x.waiting(0, 48, 0, 60, 20), 0);
        Check.due("nextField where it is sent", x.nextField(0, 48, 0, 60), -1);
        Lands.pass(x, 1);
        Check.due("cuts its PACE", x.ofField(0, 3), 20);
        Check.due("TANK", x.ofCombine(0, 1), 0);
        Check.due("FIELD of the TANK", x.ofCombine(0, 2), -1);
        Check.due("WEAR", x.ofCombine(0, 3), 20);
    }

    /** "2 the FIELD of what is in the TANK (NONE, if it is empty)"; a TRUCK takes nothing from it. */
    private static void nothingInTheTank() {
        WheatRun x = Lands.ready(100, 10, 1);
        x.fetch(0, 0);
        Lands.pass(x, 1);
        Check.due("emptied in the hour of the cut", x.ofCombine(0, 1), 0);
        Check.due("FIELD of the TANK", x.ofCombine(0, 2), -1);
        Check.due("LOAD", x.ofTruck(0, 1), 10);
        x.cut(0, -1);
        Lands.pass(x, 3);
        Check.due("LOAD as before", x.ofTruck(0, 1), 10);
        Check.due("not QUEUED", x.ofTruck(0, 6), 0);
    }

    /** "if its TANK has bushels of another FIELD": an emptied one has none, of whichever it was. */
    private static void nothingLeftInTheTank() {
        WheatRun x = Lands.ready(100, 10, 1);
        x.field(0, 0, 50, 20, 0);
        x.crop(1, 80, 12);
        x.fetch(0, 0);
        Lands.pass(x, 1);
        x.cut(0, 1);
        x.stop(0);
        x.pass(1, 0, 48, 0);
        Check.due("cuts at the other", x.ofField(1, 3), 1);
        Check.due("FIELD of the TANK", x.ofCombine(0, 2), 1);
        Check.due("of the other on the way", x.ofField(1, 9), 20);
    }

    /** "(without a LOAD nothing)": it does not wait; "2 .. (NONE, if it is empty), 3 .. (0, if it is empty)". */
    private static void nothingOnTheTruck() {
        WheatRun x = Lands.ready(100, 10, 1);
        x.elevator(0, 500, 0, 23, 5, 40);
        x.haul(0, 0);
        Check.due("TICKETS", x.pass(5, 0, 60, 0), 0);
        int[] want = {0, 0, -1, 0, 0, 0, 0, 0};
        for (int what = 0; what <= 7; what++) {
            Check.due("never loaded: ofTruck(0, " + what + ")", x.ofTruck(0, what), want[what]);
        }
        x.fetch(0, 0);
        Lands.pass(x, 1);
        x.haul(0, 0);
        Lands.pass(x, 3);
        Check.due("TICKETS", x.many(7), 1);
        for (int what = 0; what <= 7; what++) {
            Check.due("unloaded: ofTruck(0, " + what + ")", x.ofTruck(0, what), want[what]);
        }
    }

    /** "(NONE, if it is empty)", "(0, if it is empty)": with one bushel in it, it is not. */
    private static void oneBushelIsNotNothing() {
        WheatRun x = oneBushelCut();
        Check.due("TANK", x.ofCombine(0, 1), 1);
        Check.due("FIELD of the TANK", x.ofCombine(0, 2), 0);
        Check.due("in TANKS and on TRUCKS", x.many(10), 1);
        x.cut(0, -1);
        x.fetch(0, 0);
        Lands.pass(x, 1);
        Check.due("TANK then", x.ofCombine(0, 2), -1);
        Check.due("LOAD", x.ofTruck(0, 1), 1);
        Check.due("FIELD of the LOAD", x.ofTruck(0, 2), 0);
        Check.due("DAMP of the LOAD", x.ofTruck(0, 3), 15);
        Check.due("of FIELD 0 on the way", x.ofField(0, 9), 1);
        x.haul(0, 0);
        Check.due("TICKETS", x.pass(1, 0, 60, 0), 1);
        Check.due("in TANKS and on TRUCKS then", x.many(10), 0);
    }

    /** A FIELD of 20 bushels with LOST 95, of which one acre is CUT; a TRUCK and an ELEVATOR at its MILE. */
    private static WheatRun oneBushelCut() {
        WheatRun x = Lands.shattered(200, 20, 95, 1);
        x.elevator(0, 500, 0, 23, 5, 40);
        Check.due("CORRECTION before any cut", x.ofField(0, 10), -1);
        Check.due("one bushel of any", x.nextField(0, 1, 0, 60), 0);
        Lands.pass(x, 1);
        return x;
    }

    /** "(NONE, if the MAP is 0": 1 bushel times 96 / 100 tells 0, so that a TICKET alone corrects nothing. */
    private static void nothingInTheMap() {
        WheatRun x = oneBushelCut();
        x.cut(0, -1);
        x.fetch(0, 0);
        Lands.pass(x, 1);
        x.haul(0, 0);
        Check.due("TICKETS", x.pass(1, 0, 60, 0), 1);
        Check.due("MAP", x.ofField(0, 7), 0);
        Check.due("bushels of TICKETS", x.ofField(0, 8), 1);
        Check.due("on the way", x.ofField(0, 9), 0);
        Check.due("CORRECTION", x.ofField(0, 10), -1);
    }
}
