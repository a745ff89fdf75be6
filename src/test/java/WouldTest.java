/** Promises 22 to 25: what would be. Each answer is asked twice, as asking changes nothing. */
final class WouldTest {
    private WouldTest() {
    }

    public static void main(String[] args) {
        promise22ReadyIn();
        promise22ReadyInByClock();
        promise22ReadyInNone();
        promise23NextFieldByBushels();
        promise23NextFieldByWay();
        promise23NextFieldOfSeveral();
        promise23NextFieldForOneBushel();
        promise23NextFieldNone();
        promise23NextFieldAsAllElseGoesOn();
        promise23NextFieldWithFullTank();
        promise23NextFieldAsATruckRests();
        promise23NextFieldByBrings();
        promise23NextFieldCountsBushelsNotMaps();
        promise24Waiting();
        promise24WaitingForWhatIsLeft();
        promise22To24BeyondTheLastHour();
        promise25Digest();
        Check.end();
    }

    private static WheatRun with(int ripe, int damp, int clock) {
        WheatRun x = new WheatRun();
        x.field(0, 0, 100, 50, 0);
        if (clock > 0) {
            x.pass(clock, 0, 0, 0);
        }
        x.crop(0, ripe, damp);
        return x;
    }

    private static void dueReady(WheatRun x, int warmth, int air, int want) {
        int ripe = x.ofField(0, 4);
        int damp = x.ofField(0, 5);
        String what = "readyIn of RIPE " + ripe + ", DAMP " + damp + " at " + x.many(0);
        Check.due(what, x.readyIn(0, warmth, air), want);
        Check.due(what + ", again", x.readyIn(0, warmth, air), want);
        Check.due("RIPE as before", x.ofField(0, 4), ripe);
        Check.due("DAMP as before", x.ofField(0, 5), damp);
    }

    private static void promise22ReadyIn() {
        dueReady(with(80, 19, 8), 0, 100, 0);
        dueReady(with(79, 19, 8), 15, 76, 1);
        dueReady(with(79, 19, 8), 14, 76, -1);
        dueReady(with(70, 15, 8), 15, 60, 10);
        dueReady(with(70, 15, 8), 30, 60, 5);
        dueReady(with(80, 20, 8), 0, 76, 1);
        dueReady(with(80, 30, 8), 0, 0, 11);
        dueReady(with(59, 21, 8), 15, 80, -1);
        dueReady(with(59, 20, 8), 15, 79, 24);
    }

    private static void promise22ReadyInByClock() {
        dueReady(with(80, 19, 0), 0, 76, 8);
        dueReady(with(80, 19, 7), 0, 76, 1);
        dueReady(with(80, 19, 23), 0, 76, 0);
        dueReady(with(80, 19, 24), 0, 76, 8);
        dueReady(with(79, 19, 22), 15, 76, 1);
        dueReady(with(79, 19, 23), 15, 76, 9);
        dueReady(with(80, 19, 0), 0, 100, -1);
    }

    private static void promise22ReadyInNone() {
        dueReady(with(0, 30, 0), 14, 0, -1);
        dueReady(with(0, 40, 16), 15, 0, 88);
        dueReady(with(0, 40, 8), 15, 0, 80);
        dueReady(with(0, 30, 0), 15, 80, -1);
        dueReady(with(0, 30, 0), 45, 79, 40);
    }

    /** Fields of 10 bushels an acre, RIPE 80, DAMP 15, told by mile and acres; CLOCK 7; one combine at 0. */
    private static WheatRun fields(int pace, int[]... milesAndAcres) {
        WheatRun x = new WheatRun();
        x.pass(7, 0, 60, 0);
        for (int[] one : milesAndAcres) {
            int field = x.field(0, one[0], one[1], 10, 0);
            x.crop(field, 80, 15);
        }
        x.combine(0, pace);
        return x;
    }

    private static void dueNext(String what, WheatRun x, int combine, int hours, int want) {
        long before = x.digest();
        Check.due(what, x.nextField(combine, hours, 0, 60), want);
        Check.due(what + ", again", x.nextField(combine, hours, 0, 60), want);
        Check.due(what + ", digest", x.digest() == before ? 1 : 0, 1);
    }

    private static void promise23NextFieldByBushels() {
        WheatRun x = fields(5, new int[] {0, 5}, new int[] {0, 8}, new int[] {0, 7});
        dueNext("one hour", x, 0, 1, 0);
        dueNext("two hours", x, 0, 2, 1);
        WheatRun y = fields(5, new int[] {0, 50}, new int[] {0, 50}, new int[] {0, 50});
        y.crop(0, 79, 15);
        y.crop(1, 80, 21);
        dueNext("ready ones alone", y, 0, 1, 2);
        y.crop(1, 80, 20);
        dueNext("drying in the hour", y, 0, 1, 1);
        Check.due("ripening in the hour", y.nextField(0, 1, 15, 60), 0);
        y.crop(0, 10, 15);
        y.crop(2, 10, 15);
        Check.due("drying to 19", y.nextField(0, 1, 0, 79), 1);
        Check.due("air of 20", y.nextField(0, 1, 0, 80), -1);
    }

    private static void promise23NextFieldByWay() {
        WheatRun x = fields(5, new int[] {41, 200}, new int[] {20, 6}, new int[] {0, 1});
        dueNext("1 hour", x, 0, 1, 2);
        dueNext("2 hours", x, 0, 2, 1);
        dueNext("4 hours", x, 0, 4, 1);
        dueNext("5 hours", x, 0, 5, 0);
        WheatRun y = fields(1, new int[] {300, 200});
        y.cut(0, 0);
        dueNext("on the way only", y, 0, 15, -1);
        dueNext("there", y, 0, 16, 0);
        Check.due("still sent there", y.ofCombine(0, 5), 0);
        Check.due("not gone", y.ofCombine(0, 0), 0);
    }

    private static void promise23NextFieldOfSeveral() {
        WheatRun x = fields(5, new int[] {0, 4}, new int[] {0, 5}, new int[] {0, 5}, new int[] {0, 5});
        dueNext("the smallest number", x, 0, 3, 1);
        x.cut(0, 3);
        dueNext("that to which it is sent", x, 0, 3, 3);
        x.cut(0, 2);
        dueNext("that to which it is sent, in between", x, 0, 3, 2);
        x.cut(0, 1);
        dueNext("that to which it is sent, the first", x, 0, 3, 1);
        x.cut(0, 0);
        dueNext("sent to one with less", x, 0, 3, 1);
    }

    private static void promise23NextFieldForOneBushel() {
        WheatRun x = new WheatRun();
        for (int i = 0; i < 3; i++) {
            x.field(0, 0, 20, 20, 0);
            x.crop(i, 100, 30);
        }
        x.pass(19, 0, 60, 20);
        for (int i = 0; i < 3; i++) {
            x.crop(i, 100, 15);
        }
        x.combine(0, 1);
        dueNext("one bushel of any", x, 0, 1, 0);
        x.cut(0, 2);
        dueNext("one bushel where it is sent", x, 0, 1, 2);
    }

    private static void promise23NextFieldNone() {
        WheatRun x = new WheatRun();
        x.combine(0, 5);
        dueNext("without FIELDS", x, 0, 48, -1);
        WheatRun y = fields(5, new int[] {0, 5});
        dueNext("one", y, 0, 1, 0);
        y.cut(0, 0);
        y.pass(1, 0, 60, 0);
        dueNext("all CUT", y, 0, 48, -1);
        WheatRun z = fields(5, new int[] {0, 50});
        z.cut(0, 0);
        z.crop(0, 10, 15);
        dueNext("unripe, and sent there", z, 0, 48, -1);
        z.crop(0, 80, 15);
        z.pass(17, 0, 60, 0);
        dueNext("in the night", z, 0, 7, -1);
        WheatRun w = fields(20, new int[] {0, 200});
        w.crop(0, 100, 15);
        w.pass(20, 0, 60, 20);
        w.crop(0, 100, 15);
        w.cut(0, 0);
        dueNext("brings nothing", w, 0, 48, -1);
        w.field(0, 0, 10, 10, 0);
        w.crop(1, 80, 15);
        dueNext("another brings something", w, 0, 48, 1);
        w.pass(20, 0, 60, 0);
        Check.due("BROKEN", w.ofCombine(0, 4), 1);
        dueNext("when BROKEN", w, 0, 48, -1);
    }

    private static void promise23NextFieldAsAllElseGoesOn() {
        WheatRun x = fields(5, new int[] {0, 40}, new int[] {0, 11});
        x.combine(0, 20);
        dueNext("alone", x, 0, 5, 0);
        x.cut(1, 0);
        dueNext("another cuts there too", x, 0, 5, 1);
        x.cut(1, 1);
        dueNext("another cuts elsewhere", x, 0, 5, 0);
        dueNext("the other one comes behind", x, 1, 5, 0);
    }

    private static void promise23NextFieldWithFullTank() {
        WheatRun x = fields(20, new int[] {0, 60}, new int[] {0, 200});
        x.cut(0, 0);
        x.pass(2, 0, 60, 0);
        Check.due("TANK", x.ofCombine(0, 1), 400);
        dueNext("a full TANK", x, 0, 10, -1);
        x.truck(50);
        x.fetch(0, 0);
        dueNext("a TRUCK comes too late", x, 0, 2, -1);
        dueNext("a TRUCK comes: as it is sent", x, 0, 3, 0);
        dueNext("a TRUCK comes: as more is left", x, 0, 4, 1);
        x.stop(0);
        dueNext("a TRUCK stays", x, 0, 4, -1);
    }

    private static void promise23NextFieldAsATruckRests() {
        WheatRun x = fields(20, new int[] {0, 200});
        x.elevator(250, 0, 0, 1, 5, 5);
        x.truck(0);
        x.cut(0, 0);
        x.pass(13, 0, 60, 0);
        x.haul(0, 0);
        x.pass(5, 0, 60, 0);
        x.fetch(0, 0);
        x.pass(10, 0, 60, 0);
        Check.due("TANK", x.ofCombine(0, 1), 400);
        Check.due("HOURS", x.ofTruck(0, 4), 10);
        Check.due("REST", x.ofTruck(0, 5), 5);
        dueNext("3 of REST, and it takes", x, 0, 4, -1);
        dueNext("3 of REST, it takes, and a cut", x, 0, 5, 0);
    }

    private static void promise23NextFieldByBrings() {
        WheatRun x = fields(5, new int[] {0, 50}, new int[] {0, 50});
        x.field(0, 0, 50, 11, 0);
        x.crop(2, 80, 15);
        dueNext("brings more", x, 0, 3, 2);
        x.crop(2, 100, 30);
        x.pass(3, 0, 60, 10);
        x.crop(0, 80, 15);
        x.crop(1, 80, 15);
        x.crop(2, 100, 15);
        dueNext("shattered: 11 times 85 / 100", x, 0, 3, 0);
    }

    private static void promise23NextFieldCountsBushelsNotMaps() {
        WheatRun x = fields(10, new int[] {0, 50}, new int[] {0, 50});
        x.combine(0, 10);
        x.cut(1, 1);
        dueNext("what the others cut counts not", x, 0, 1, 0);
        x.cut(1, -1);
        x.cut(0, 0);
        x.pass(1, 0, 60, 0);
        dueNext("what it cut before counts not", x, 0, 1, 0);
        x.truck(0);
        x.fetch(0, 0);
        x.pass(1, 0, 60, 0);
        x.cut(0, 1);
        dueNext("equal cuts, what came before counts not", x, 0, 1, 1);
    }

    private static void dueWaiting(WheatRun x, int hours, int air, int rain, int want) {
        String what = "waiting(0, " + hours + ", 0, " + air + ", " + rain + ") at " + x.many(0);
        long before = x.digest();
        Check.due(what, x.waiting(0, hours, 0, air, rain), want);
        Check.due(what + ", again", x.waiting(0, hours, 0, air, rain), want);
        Check.due(what + ", digest", x.digest() == before ? 1 : 0, 1);
    }

    private static void promise24Waiting() {
        WheatRun x = with(100, 10, 0);
        dueWaiting(x, 1, 40, 0, 0);
        dueWaiting(x, 11, 40, 0, 0);
        dueWaiting(x, 12, 40, 0, 100);
        dueWaiting(x, 18, 40, 0, 300);
        dueWaiting(x, 48, 40, 0, 600);
        dueWaiting(x, 48, 56, 0, 0);
        dueWaiting(x, 1, 40, 9, 0);
        dueWaiting(x, 1, 40, 10, 300);
        dueWaiting(x, 19, 40, 20, 4800);
        dueWaiting(x, 48, 40, 20, 5000);
        dueWaiting(with(100, 10, 11), 48, 56, 0, 200);
        WheatRun y = with(99, 10, 11);
        Check.due("cold", y.waiting(0, 1, 14, 40, 0), 0);
        Check.due("warm", y.waiting(0, 1, 15, 40, 0), 100);
        dueWaiting(y, 48, 40, 20, 0);
    }

    private static void promise24WaitingForWhatIsLeft() {
        WheatRun x = with(100, 10, 0);
        x.combine(0, 1);
        x.cut(0, 0);
        x.pass(17, 0, 40, 0);
        Check.due("CUT", x.ofField(0, 3), 8);
        Check.due("LOST", x.ofField(0, 6), 6);
        dueWaiting(x, 1, 40, 0, 0);
        dueWaiting(x, 1, 40, 10, 92 * (47 - 44));
        dueWaiting(x, 19, 40, 0, 92 * (47 - 46));
    }

    private static void promise22To24BeyondTheLastHour() {
        WheatRun x = fields(5, new int[] {0, 100});
        for (int i = 0; i < 49; i++) {
            x.pass(48, 0, 60, 0);
        }
        x.pass(41, 0, 60, 0);
        Check.due("NOW", x.many(0), 2400);
        x.crop(0, 80, 15);
        dueReady(x, 0, 60, 8);
        dueNext("from 2400", x, 0, 7, -1);
        dueNext("from 2400", x, 0, 8, 0);
        x.crop(0, 100, 10);
        dueWaiting(x, 12, 40, 0, 100);
        dueWaiting(x, 48, 40, 0, 200);
        Check.due("NOW stays", x.many(0), 2400);
    }

    private static void promise25Digest() {
        Check.due("digest of a new land", new WheatRun().digest(), -69621451130125340L);
        WheatRun x = fields(5, new int[] {0, 50}, new int[] {30, 60});
        Check.due("digest of fields", x.digest(), Replay.digestOf(x));
        x.truck(0);
        x.elevator(0, 1000, 0, 23, 5, 40);
        x.cut(0, 0);
        x.fetch(0, 0);
        x.pass(2, 0, 60, 0);
        x.haul(0, 0);
        x.pass(1, 0, 60, 0);
        Check.due("TICKETS", x.many(7), 1);
        Check.due("digest of all", x.digest(), Replay.digestOf(x));
        Check.due("digest again", x.digest(), Replay.digestOf(x));
    }
}
