import java.math.BigInteger;

/** A wrap-around: midnight, opening hours past it, days one after another, and the digest's 64 bits. */
final class EdgeWrapTest {
    private EdgeWrapTest() {
    }

    public static void main(String[] args) {
        clockEndsTheCut();
        clockBeginsTheCut();
        clockOfTheAfternoons();
        clockAtTheLastHour();
        elevatorOverMidnight();
        elevatorWithinTheDay();
        ticketTellsNow();
        promise22ReadyInOverMidnight();
        promise22ReadyInBeyondTheLastHour();
        promise23NextFieldOverMidnight();
        promise24WaitingOverMidnight();
        promise25DigestWraps();
        Check.end();
    }

    /** "as the CLOCK is 0 to 7": NOW 23 is cut in, NOW 24 to 31 are not, NOW 32 is; and so each day. */
    private static void clockEndsTheCut() {
        WheatRun x = new WheatRun();
        x.field(0, 0, 200, 10, 0);
        x.crop(0, 80, 15);
        x.combine(0, 1);
        x.cut(0, 0);
        int acres = 0;
        for (int now = 1; now <= 58; now++) {
            Lands.pass(x, 1);
            acres += now >= 8 && now <= 23 || now >= 32 && now <= 47 || now >= 56 ? 1 : 0;
            Check.due("acres at NOW " + now, x.ofCombine(0, 6), acres);
            Check.due("IDLE at NOW " + now, x.ofCombine(0, 7), now - acres);
        }
    }

    /** The hours of one call go over midnight like those of many. */
    private static void clockBeginsTheCut() {
        WheatRun x = Lands.ready(200, 10, 1);
        Lands.pass(x, 15);
        Check.due("NOW", x.many(0), 22);
        Lands.pass(x, 11);
        Check.due("acres of 23, 32 and 33", x.ofCombine(0, 6), 15 + 1 + 2);
    }

    /** "if the CLOCK is 12 to 17": 6 hours of each day. */
    private static void clockOfTheAfternoons() {
        WheatRun x = new WheatRun();
        x.field(0, 0, 1, 10, 0);
        x.crop(0, 100, 10);
        for (int now = 1; now <= 90; now++) {
            x.pass(1, 0, 40, 0);
            int due = now / 24 * 6 + Math.max(0, Math.min(6, now % 24 - 11));
            Check.due("LOST at NOW " + now, x.ofField(0, 6), due);
        }
    }

    /** NOW 2400 is CLOCK 0; the hours that are asked for behind it go on with 1. */
    private static void clockAtTheLastHour() {
        WheatRun x = new WheatRun();
        x.field(0, 0, 100, 10, 0);
        x.combine(0, 1);
        Lands.passTo(x, 2398);
        x.crop(0, 80, 15);
        x.cut(0, 0);
        Lands.pass(x, 1);
        Check.due("acres at 2399", x.ofCombine(0, 6), 1);
        Lands.pass(x, 1);
        Check.due("acres at 2400", x.ofCombine(0, 6), 1);
        Check.due("IDLE at 2400", x.ofCombine(0, 7), 1);
    }

    /** A TRUCK with 100 bushels waits at an ELEVATOR from the hour ahead of the CLOCK that is told. */
    private static int ticketsAt(int clock, int from, int to) {
        WheatRun x = Lands.ready(200, 10, 10);
        x.elevator(0, 1000, from, to, 5, 40);
        x.fetch(0, 0);
        Lands.pass(x, 1);
        x.cut(0, -1);
        x.stop(0);
        Lands.pass(x, 1);
        Lands.passUntil(x, (clock + 23) % 24);
        x.haul(0, 0);
        int written = x.pass(1, 0, 60, 0);
        Check.due("CLOCK", x.many(0) % 24, clock);
        Check.due("QUEUED", x.ofTruck(0, 6), 1 - written);
        return written;
    }

    /** "over midnight, if the first one is greater": from it to 23, and from 0 up to one before the other. */
    private static void elevatorOverMidnight() {
        int[][] rows = {{23, 0}, {23, 1}, {22, 2}, {20, 6}, {1, 0}, {12, 11}};
        for (int[] row : rows) {
            for (int clock = 0; clock < 24; clock++) {
                int due = clock >= row[0] || clock <= row[1] - 1 ? 1 : 0;
                Check.due("from " + row[0] + " to " + row[1] + " at " + clock, ticketsAt(clock, row[0], row[1]), due);
            }
        }
    }

    /** "open from an hour of the CLOCK up to one before another one". */
    private static void elevatorWithinTheDay() {
        int[][] rows = {{0, 1}, {0, 23}, {22, 23}, {8, 18}, {11, 12}};
        for (int[] row : rows) {
            for (int clock = 0; clock < 24; clock++) {
                int due = clock >= row[0] && clock <= row[1] - 1 ? 1 : 0;
                Check.due("from " + row[0] + " to " + row[1] + " at " + clock, ticketsAt(clock, row[0], row[1]), due);
            }
        }
    }

    /** "the ELEVATOR and NOW": the hour of a TICKET is counted on over the days, not by the CLOCK. */
    private static void ticketTellsNow() {
        WheatRun x = Lands.ready(200, 10, 10);
        x.elevator(0, 1000, 23, 1, 5, 40);
        x.fetch(0, 0);
        Lands.pass(x, 1);
        x.haul(0, 0);
        Check.due("TICKETS before 23", x.pass(14, 0, 60, 0), 0);
        Check.due("TICKETS at 23", x.pass(1, 0, 60, 0), 1);
        Check.due("its hour", x.ofTicket(0, 5), 23);
        x.fetch(0, 0);
        Lands.pass(x, 9);
        x.haul(0, 0);
        Check.due("TICKETS of the next day", x.pass(40, 0, 60, 0), 1);
        Check.due("its hour", x.ofTicket(1, 5), 47);
    }

    private static int readyAt(int now) {
        WheatRun x = new WheatRun();
        x.field(0, 0, 1, 10, 0);
        Lands.passTo(x, now);
        x.crop(0, 80, 15);
        return x.readyIn(0, 0, 60);
    }

    /** "with a CLOCK of 8 to 23 (0: it has by now": at 23 it has, at 24 it has in 8 hours. */
    private static void promise22ReadyInOverMidnight() {
        for (int now = 0; now <= 56; now++) {
            int clock = now % 24;
            Check.due("readyIn at NOW " + now, readyAt(now), clock >= 8 ? 0 : 8 - clock);
        }
        WheatRun x = new WheatRun();
        x.field(0, 0, 1, 10, 0);
        Lands.passTo(x, 23);
        x.crop(0, 79, 15);
        Check.due("RIPE behind midnight", x.readyIn(0, 15, 60), 9);
        x.crop(0, 80, 20);
        Check.due("dry behind midnight", x.readyIn(0, 0, 0), 9);
    }

    /** "(.. NOW may be above 2400 by that)". */
    private static void promise22ReadyInBeyondTheLastHour() {
        Check.due("at 2399", readyAt(2399), 0);
        Check.due("at 2400", readyAt(2400), 8);
        WheatRun x = new WheatRun();
        x.field(0, 0, 1, 10, 0);
        Lands.passTo(x, 2400);
        Check.due("RIPE 0, DAMP 30, from 2400", x.readyIn(0, 15, 0), 80);
        x.crop(0, 0, 40);
        Check.due("RIPE 0, DAMP 40, from 2400", x.readyIn(0, 15, 0), 80);
        Check.due("NOW stays", x.many(0), 2400);
    }

    /** From 22 it cuts at 23, not in 0 to 7, and at 8 again: 1 and 1 acre, so that it takes 10 hours for 2. */
    private static void promise23NextFieldOverMidnight() {
        WheatRun x = new WheatRun();
        x.field(0, 0, 1, 15, 0);
        x.field(0, 0, 2, 10, 0);
        x.combine(0, 1);
        Lands.passTo(x, 22);
        x.crop(0, 80, 15);
        x.crop(1, 80, 15);
        for (int hours = 1; hours <= 12; hours++) {
            Check.due("in " + hours + " hours", x.nextField(0, hours, 0, 60), hours < 10 ? 0 : 1);
        }
    }

    /** Of 48 hours from 22 the afternoons of two days: NOW 36 to 41 and 60 to 65. */
    private static void promise24WaitingOverMidnight() {
        WheatRun x = new WheatRun();
        x.field(0, 0, 10, 50, 0);
        Lands.passTo(x, 22);
        x.crop(0, 100, 10);
        int[][] rows = {{1, 0}, {13, 0}, {14, 1}, {19, 6}, {37, 6}, {38, 7}, {43, 12}, {48, 12}};
        for (int[] row : rows) {
            int due = 10 * (50 - 50 * (100 - row[1]) / 100);
            Check.due("waiting " + row[0], x.waiting(0, row[0], 0, 40, 0), due);
        }
    }

    private static BigInteger more(BigInteger d, long value) {
        return d.multiply(BigInteger.valueOf(31)).add(BigInteger.valueOf(value));
    }

    private static BigInteger more(BigInteger d, Face call, WheatRun x, int number, int most) {
        BigInteger sum = d;
        for (int what = 0; what <= most; what++) {
            sum = more(sum, call.on(x, number, what));
        }
        return sum;
    }

    /** "which wraps around as a 64-bit integer": the low 64 bits of what it would be without an end. */
    private static BigInteger endless(WheatRun x) {
        BigInteger d = BigInteger.valueOf(7812);
        for (int what = 0; what <= 12; what++) {
            d = more(d, x.many(what));
        }
        for (int i = 0; i < x.many(1); i++) {
            d = more(d, Face.OF_FIELD, x, i, 11);
            d = more(more(d, x.readyIn(i, 25, 40)), x.waiting(i, 24, 30, 20, 0));
        }
        for (int i = 0; i < x.many(3); i++) {
            d = more(more(d, Face.OF_COMBINE, x, i, 7), x.nextField(i, 12, 30, 40));
        }
        for (int i = 0; i < x.many(5); i++) {
            d = more(d, Face.OF_TRUCK, x, i, 7);
        }
        for (int i = 0; i < x.many(7); i++) {
            d = more(d, Face.OF_TICKET, x, i, 6);
        }
        for (int farmer = 0; farmer < 4; farmer++) {
            d = more(more(d, x.owed(farmer, false)), x.owed(farmer, true));
        }
        return d;
    }

    private static void promise25DigestWraps() {
        WheatRun[] lands = {new WheatRun(), Lands.half(), Lands.full(), Lands.last(), Lands.poor()};
        for (int i = 0; i < lands.length; i++) {
            BigInteger d = endless(lands[i]);
            Check.due("beyond 64 bits", d.bitLength() > 64 ? 1 : 0, 1);
            Check.due("digest of land " + i, lands[i].digest(), d.longValue());
        }
    }
}
