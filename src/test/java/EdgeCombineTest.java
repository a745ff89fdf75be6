/** Promises 8, 12 and 14, section 2 of the terms: each edge that it names for a COMBINE. */
final class EdgeCombineTest {
    private EdgeCombineTest() {
    }

    public static void main(String[] args) {
        combineGoes();
        combineComesAndThenCuts();
        combineTurnsRound();
        combineWaitsByRipe();
        combineWaitsByDamp();
        combineWaitsByRain();
        combineWaitsWithOneBushelOfAnother();
        combineCutsItsPace();
        combinesShareTheLastAcres();
        dampOfATankLeftInPart();
        dampOfATankTakenWhole();
        brokenStandsStill();
        brokenIsEmptied();
        mendedWithoutWear();
        Check.end();
    }

    /** "In another MILE than its FIELD: it goes 20 MILES towards it (or comes there)". */
    private static void combineGoes() {
        int[][] rows = {{1, 1}, {19, 19}, {20, 20}, {21, 20}, {39, 20}, {40, 20}, {41, 20}, {300, 20}};
        for (int[] row : rows) {
            int hours = (row[0] + 19) / 20;
            WheatRun x = new WheatRun();
            x.field(0, 300, 10, 10, 0);
            x.field(0, 0, 10, 10, 0);
            x.combine(300 - row[0], 1);
            x.combine(row[0], 1);
            x.cut(0, 0);
            x.cut(1, 1);
            Lands.pass(x, 1);
            Check.due(row[0] + " up, an hour", x.ofCombine(0, 0), 300 - row[0] + row[1]);
            Check.due(row[0] + " down, an hour", x.ofCombine(1, 0), row[0] - row[1]);
            if (hours > 1) {
                Lands.pass(x, hours - 1);
            }
            Check.due(row[0] + " up", x.ofCombine(0, 0), 300);
            Check.due(row[0] + " down", x.ofCombine(1, 0), 0);
            Check.due("IDLE on the way", x.many(11), 0);
            Lands.pass(x, 1);
            Check.due("IDLE when there", x.many(11), 2);
        }
    }

    /** "In an hour it does the first of these": in the hour in which it comes there it does not cut. */
    private static void combineComesAndThenCuts() {
        WheatRun x = Lands.ready(10, 10, 1);
        x.combine(20, 1);
        x.combine(21, 1);
        x.cut(1, 0);
        x.cut(2, 0);
        int[][] want = {{0, 0}, {1, 0}, {2, 1}};
        for (int hour = 0; hour < 3; hour++) {
            Lands.pass(x, 1);
            Check.due("20 MILES, hour " + hour, x.ofCombine(1, 6), want[hour][0]);
            Check.due("21 MILES, hour " + hour, x.ofCombine(2, 6), want[hour][1]);
        }
    }

    private static void combineTurnsRound() {
        WheatRun x = new WheatRun();
        x.field(0, 100, 10, 10, 0);
        x.field(0, 5, 10, 10, 0);
        x.combine(0, 1);
        x.cut(0, 0);
        Lands.pass(x, 2);
        Check.due("on the way", x.ofCombine(0, 0), 40);
        x.cut(0, 1);
        Lands.pass(x, 1);
        Check.due("back", x.ofCombine(0, 0), 20);
        x.cut(0, -1);
        Lands.pass(x, 2);
        Check.due("stays", x.ofCombine(0, 0), 20);
        x.cut(0, 1);
        Lands.pass(x, 1);
        Check.due("there", x.ofCombine(0, 0), 5);
    }

    private static void dueOneHour(String what, int ripe, int damp, int air, int rain, int acres) {
        WheatRun x = Lands.ready(10, 10, 1);
        x.crop(0, ripe, damp);
        x.pass(1, 0, air, rain);
        Check.due(what + ": acres", x.ofCombine(0, 6), acres);
        Check.due(what + ": IDLE", x.ofCombine(0, 7), 1 - acres);
    }

    /** "a RIPE below 80". */
    private static void combineWaitsByRipe() {
        dueOneHour("RIPE 0", 0, 15, 60, 0, 0);
        dueOneHour("RIPE 79", 79, 15, 60, 0, 0);
        dueOneHour("RIPE 80", 80, 15, 60, 0, 1);
        dueOneHour("RIPE 100", 100, 15, 60, 0, 1);
    }

    /** "a DAMP of 20 or more". */
    private static void combineWaitsByDamp() {
        dueOneHour("DAMP 19", 80, 19, 76, 0, 1);
        dueOneHour("DAMP 20", 80, 20, 80, 0, 0);
        dueOneHour("DAMP 20 less 1", 80, 20, 76, 0, 1);
        dueOneHour("DAMP 19 and 1", 80, 19, 80, 0, 0);
        dueOneHour("DAMP 5", 80, 5, 0, 0, 1);
        dueOneHour("DAMP 40", 80, 40, 100, 0, 0);
    }

    /** "With RAIN in this hour": however dry the FIELD is in it. */
    private static void combineWaitsByRain() {
        dueOneHour("RAIN 0", 80, 5, 20, 0, 1);
        dueOneHour("RAIN 1", 80, 5, 20, 1, 0);
        dueOneHour("RAIN 20", 80, 5, 20, 20, 0);
    }

    /** "if its TANK has bushels of another FIELD": one is enough. */
    private static void combineWaitsWithOneBushelOfAnother() {
        WheatRun x = Lands.shattered(10, 20, 95, 1);
        x.field(0, 0, 10, 10, 0);
        x.crop(1, 80, 15);
        Lands.pass(x, 1);
        Check.due("one bushel of 0", x.ofCombine(0, 1), 1);
        x.cut(0, 1);
        Lands.pass(x, 1);
        Check.due("CUT of 1", x.ofField(1, 3), 0);
        Check.due("IDLE", x.ofCombine(0, 7), 1);
    }

    /** "with a PACE (1 to 20 acres an hour)", "as many acres as its PACE, but no more than are not CUT". */
    private static void combineCutsItsPace() {
        int[][] rows = {{1, 200, 1}, {20, 200, 20}, {20, 21, 20}, {20, 20, 20}, {20, 19, 19}, {20, 1, 1}, {1, 1, 1}};
        for (int[] row : rows) {
            WheatRun x = Lands.ready(row[1], 10, row[0]);
            Lands.pass(x, 1);
            String what = "PACE " + row[0] + " of " + row[1] + " acres";
            Check.due(what, x.ofCombine(0, 6), row[2]);
            Check.due(what + ": CUT", x.ofField(0, 3), row[2]);
            Check.due(what + ": WEAR", x.ofCombine(0, 3), row[2]);
            Check.due(what + ": TANK", x.ofCombine(0, 1), 10 * row[2]);
        }
    }

    /** "COMBINES by numbers": of 5 acres the first cuts 3, the second 2, and for the third none is left. */
    private static void combinesShareTheLastAcres() {
        WheatRun x = Lands.ready(5, 10, 3);
        for (int i = 1; i < 3; i++) {
            x.combine(0, 3);
            x.cut(i, 0);
        }
        Lands.pass(x, 1);
        int[][] want = {{3, 0}, {2, 0}, {0, 1}};
        for (int i = 0; i < 3; i++) {
            Check.due("acres of " + i, x.ofCombine(i, 6), want[i][0]);
            Check.due("IDLE of " + i, x.ofCombine(i, 7), want[i][1]);
        }
    }

    /**
     * A TANK of 376 bushels with a DAMP of 18: TRUCK 0 with 752 takes a part of it, or TRUCK 1 all. Then
     * TRUCK 0 unloads, one hour more is cut at a DAMP of 12, and TRUCK 0 takes what is there.
     */
    private static WheatRun taken(boolean isPart) {
        WheatRun x = Lands.ready(200, 47, 17);
        x.truck(0);
        x.crop(0, 80, 15);
        x.fetch(0, 0);
        Lands.pass(x, 2);
        Check.due("LOAD of 2 times 376", x.ofTruck(0, 1), 752);
        x.stop(0);
        x.crop(0, 80, 18);
        x.pass(1, 0, 72, 0);
        Check.due("TANK", x.ofCombine(0, 1), 376);
        x.cut(0, -1);
        x.fetch(isPart ? 0 : 1, 0);
        Lands.pass(x, 1);
        Check.due("left in the TANK", x.ofCombine(0, 1), isPart ? 376 - 48 : 0);
        x.stop(0);
        x.stop(1);
        x.haul(0, x.elevator(0, 9999, 0, 23, 5, 40));
        Lands.pass(x, 1);
        x.crop(0, 80, 12);
        x.cut(0, 0);
        x.pass(1, 0, 48, 0);
        x.fetch(0, 0);
        x.cut(0, -1);
        Lands.pass(x, 1);
        return x;
    }

    /** "(a TRUCK that takes a part leaves that)". */
    private static void dampOfATankLeftInPart() {
        WheatRun x = taken(true);
        Check.due("DAMP of what was left, and more", x.ofTruck(0, 3), 18);
        Check.due("TICKET ahead of it", x.ofTicket(0, 2), 18);
    }

    /** "since it was empty last". */
    private static void dampOfATankTakenWhole() {
        WheatRun x = taken(false);
        Check.due("DAMP of what was cut then", x.ofTruck(0, 3), 12);
        Check.due("TICKET ahead of it", x.ofTicket(0, 2), 15);
    }

    private static WheatRun broken() {
        WheatRun x = Lands.ready(200, 40, 10);
        x.field(0, 300, 10, 10, 0);
        Lands.pass(x, 1);
        Lands.shatter(x, 0, 100);
        Lands.passUntil(x, 7);
        Lands.pass(x, 9);
        Check.due("WEAR", x.ofCombine(0, 3), 100);
        Check.due("TANK", x.ofCombine(0, 1), 400);
        return x;
    }

    /** "BROKEN: nothing": it comes first, ahead of going and waiting. */
    private static void brokenStandsStill() {
        WheatRun x = broken();
        int idle = x.ofCombine(0, 7);
        Lands.pass(x, 2);
        x.cut(0, 1);
        Lands.pass(x, 2);
        Check.due("MILE", x.ofCombine(0, 0), 0);
        Check.due("IDLE", x.ofCombine(0, 7), idle);
        Check.due("acres", x.ofCombine(0, 6), 100);
        Check.due("sent there all the same", x.ofField(1, 11), 1);
        Check.due("nextField", x.nextField(0, 48, 30, 60), -1);
    }

    private static void brokenIsEmptied() {
        WheatRun x = broken();
        x.fetch(0, 0);
        Lands.pass(x, 1);
        Check.due("LOAD", x.ofTruck(0, 1), 400);
        Check.due("TANK", x.ofCombine(0, 1), 0);
        Check.due("still BROKEN", x.ofCombine(0, 4), 1);
    }

    /** "it costs WEAR times 3 of MONEY": nothing without WEAR, 3 for one acre. */
    private static void mendedWithoutWear() {
        WheatRun x = Lands.ready(200, 10, 1);
        Check.due("WEAR 0", x.mend(0), 0);
        Check.due("MONEY", x.many(8), 1000);
        Lands.pass(x, 1);
        Check.due("WEAR 1", x.mend(0), 3);
        Check.due("MONEY", x.many(8), 997);
        Check.due("WEAR then", x.ofCombine(0, 3), 0);
        Check.due("acres that it cut ever", x.ofCombine(0, 6), 1);
        Check.due("at once again", x.mend(0), 0);
    }
}
