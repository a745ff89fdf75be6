/** Promise 14, section 1 of the terms: what an hour does to a FIELD, and each edge that it names. */
final class HourFieldTest {
    private HourFieldTest() {
    }

    public static void main(String[] args) {
        fieldAtFirst();
        fieldAtBothEnds();
        warmthOfAnHour();
        rainOrNone();
        ripeEnoughToDry();
        ripeEnoughToDryByThen();
        dampByAQuarterOfAir();
        lostWhenRipe();
        lostWhenDry();
        lostByRain();
        lostByRainRipeByThen();
        lostByEitherAlone();
        bringsNothingAnyMore();
        hoursBeforeItWasTold();
        soaksByRain();
        fieldByField();
        Check.end();
    }

    private static WheatRun with(int ripe, int damp) {
        WheatRun x = new WheatRun();
        x.field(0, 0, 100, 50, 0);
        x.crop(0, ripe, damp);
        return x;
    }

    private static int dampAfter(int ripe, int damp, int hours, int air, int rain) {
        WheatRun x = with(ripe, damp);
        x.pass(hours, 0, air, rain);
        return x.ofField(0, 5);
    }

    /** "CUT (0 at first)", "RIPE (0 to 100; 0 at first), DAMP (5 to 40: percents; 30 at first)", "LOST (.. 0 at first)". */
    private static void fieldAtFirst() {
        WheatRun x = new WheatRun();
        x.field(3, 300, 200, 90, 50);
        int[] want = {3, 300, 200, 0, 0, 30, 0, 0, 0, 0, -1, 0};
        for (int what = 0; what <= 11; what++) {
            Check.due("ofField(0, " + what + ")", x.ofField(0, what), want[what]);
        }
    }

    /** "at a MILE (0 to 300), with ACRES (1 to 200), .. a YIELD (10 to 90 bushels an acre)": both ends act. */
    private static void fieldAtBothEnds() {
        WheatRun x = new WheatRun();
        x.field(0, 0, 1, 10, 0);
        x.field(3, 300, 200, 90, 50);
        x.crop(0, 80, 15);
        x.crop(1, 80, 15);
        x.combine(0, 20);
        x.combine(300, 20);
        Lands.pass(x, 7);
        x.cut(0, 0);
        x.cut(1, 1);
        Lands.pass(x, 1);
        Check.due("the only acre, of 10", x.ofCombine(0, 1), 10);
        Check.due("4 of 200 acres, of 90", x.ofCombine(1, 1), 360);
        Check.due("not CUT", x.many(2), 196);
    }

    /** "RIPE is 2 more with a WARMTH of 30 or more, otherwise 1 more with 15 or more". */
    private static void warmthOfAnHour() {
        int[][] rows = {{0, 50}, {14, 50}, {15, 51}, {16, 51}, {29, 51}, {30, 52}, {45, 52}};
        for (int[] row : rows) {
            WheatRun x = with(50, 30);
            x.pass(1, row[0], 50, 0);
            Check.due("RIPE with WARMTH " + row[0], x.ofField(0, 4), row[1]);
            x.pass(1, row[0], 50, 20);
            Check.due("RIPE with RAIN too", x.ofField(0, 4), 2 * row[1] - 50);
        }
    }

    /** "With RAIN DAMP is RAIN more ..; without it ..": a RAIN of 1 is one, and nothing dries in it. */
    private static void rainOrNone() {
        int[][] rows = {{0, 0, 19}, {0, 1, 21}, {100, 0, 21}, {100, 1, 21}, {0, 2, 22}};
        for (int[] row : rows) {
            WheatRun x = with(100, 20);
            x.pass(1, 0, row[0], row[1]);
            Check.due("DAMP with AIR " + row[0] + ", RAIN " + row[1], x.ofField(0, 5), row[2]);
        }
    }

    /** "with a RIPE of 60 or more". */
    private static void ripeEnoughToDry() {
        int[][] rows = {{0, 30}, {59, 30}, {60, 29}, {61, 29}, {100, 29}};
        for (int[] row : rows) {
            WheatRun x = with(row[0], 30);
            x.pass(1, 0, 50, 0);
            Check.due("DAMP with RIPE " + row[0], x.ofField(0, 5), row[1]);
        }
    }

    /** "each time by what there is by then": the RIPE of the same hour. */
    private static void ripeEnoughToDryByThen() {
        int[][] rows = {{57, 30, 30}, {58, 30, 29}, {58, 29, 30}, {59, 15, 29}, {59, 14, 30}};
        for (int[] row : rows) {
            WheatRun x = with(row[0], 30);
            x.pass(1, row[1], 50, 0);
            Check.due("DAMP with RIPE " + row[0] + " and WARMTH " + row[1], x.ofField(0, 5), row[2]);
        }
    }

    /** "DAMP is 1 more, if it is below AIR / 4, and 1 less, if it is above that (5 at least)". */
    private static void dampByAQuarterOfAir() {
        int[][] rows = {
            {10, 36, 9}, {10, 39, 9}, {10, 40, 10}, {10, 43, 10}, {10, 44, 11}, {10, 100, 11},
            {5, 0, 5}, {5, 19, 5}, {5, 20, 5}, {5, 23, 5}, {5, 24, 6}, {6, 0, 5}, {6, 23, 5}, {6, 24, 6},
            {24, 100, 25}, {25, 100, 25}, {26, 100, 25}, {40, 100, 39}, {40, 0, 39}, {25, 99, 24},
        };
        for (int[] row : rows) {
            WheatRun x = with(80, row[0]);
            x.pass(1, 0, row[1], 0);
            Check.due("DAMP " + row[0] + " with AIR " + row[1], x.ofField(0, 5), row[2]);
        }
    }

    private static int lostAtNoon(int ripe, int damp, int warmth, int air, int rain) {
        WheatRun x = with(0, 30);
        Lands.pass(x, 11);
        x.crop(0, ripe, damp);
        x.pass(1, warmth, air, rain);
        return x.ofField(0, 6);
    }

    /** "With a RIPE of 100, if the CLOCK is 12 to 17": 99 is not ripe enough, but may be by then. */
    private static void lostWhenRipe() {
        Check.due("RIPE 99", lostAtNoon(99, 10, 14, 40, 0), 0);
        Check.due("RIPE 99 and 1", lostAtNoon(99, 10, 15, 40, 0), 1);
        Check.due("RIPE 98 and 1", lostAtNoon(98, 10, 29, 40, 0), 0);
        Check.due("RIPE 98 and 2", lostAtNoon(98, 10, 30, 40, 0), 1);
        Check.due("RIPE 100", lostAtNoon(100, 10, 0, 40, 0), 1);
    }

    /** "and DAMP below 14": that of the same hour. */
    private static void lostWhenDry() {
        Check.due("DAMP 14", lostAtNoon(100, 14, 0, 56, 0), 0);
        Check.due("DAMP 13", lostAtNoon(100, 13, 0, 52, 0), 1);
        Check.due("DAMP 14 less 1", lostAtNoon(100, 14, 0, 52, 0), 1);
        Check.due("DAMP 13 and 1", lostAtNoon(100, 13, 0, 56, 0), 0);
        Check.due("DAMP 15 less 1", lostAtNoon(100, 15, 0, 52, 0), 0);
        Check.due("DAMP 5", lostAtNoon(100, 5, 0, 0, 0), 1);
    }

    /** "with a RIPE of 100 and RAIN of 10 or more it is 5 more": by night too. */
    private static void lostByRain() {
        int[][] rows = {{100, 0, 0}, {100, 9, 0}, {100, 10, 5}, {100, 11, 5}, {100, 20, 5}, {99, 10, 0}, {99, 20, 0}};
        for (int[] row : rows) {
            WheatRun x = with(row[0], 30);
            x.pass(1, 0, 50, row[1]);
            Check.due("LOST with RIPE " + row[0] + ", RAIN " + row[1], x.ofField(0, 6), row[2]);
        }
    }

    private static void lostByRainRipeByThen() {
        int[][] rows = {{99, 14, 0}, {99, 15, 5}, {98, 29, 0}, {98, 30, 5}, {97, 45, 0}};
        for (int[] row : rows) {
            WheatRun x = with(row[0], 30);
            x.pass(1, row[1], 50, 10);
            Check.due("LOST with RIPE " + row[0] + ", WARMTH " + row[1], x.ofField(0, 6), row[2]);
        }
    }

    /** A RAIN of 10 makes the driest FIELD damper than 14, so that an hour takes 1 or 5, never 6. */
    private static void lostByEitherAlone() {
        Check.due("DAMP 5, RAIN 10", lostAtNoon(100, 5, 0, 40, 10), 5);
        Check.due("DAMP 5, RAIN 9", lostAtNoon(100, 5, 0, 40, 9), 0);
        Check.due("DAMP 5, RAIN 8", lostAtNoon(100, 5, 0, 40, 8), 1);
    }

    /** "An acre BRINGS YIELD times (100 less LOST) / 100 bushels", rounded down: 1 of LOST 90, 0 of LOST 95. */
    private static void bringsNothingAnyMore() {
        int[][] rows = {{10, 85, 1}, {10, 90, 1}, {10, 95, 0}, {19, 95, 0}, {20, 95, 1}, {90, 95, 4}, {90, 100, 0}, {10, 5, 9}};
        for (int[] row : rows) {
            WheatRun x = Lands.shattered(10, row[0], row[1], 1);
            Lands.pass(x, 1);
            Check.due("YIELD " + row[0] + ", LOST " + row[1], x.ofCombine(0, 1), row[2]);
            Check.due("its acre is CUT", x.ofField(0, 3), 1);
        }
    }

    private static void hoursBeforeItWasTold() {
        WheatRun x = new WheatRun();
        x.pass(40, 45, 0, 20);
        x.field(0, 0, 10, 10, 0);
        Check.due("RIPE", x.ofField(0, 4), 0);
        Check.due("DAMP", x.ofField(0, 5), 30);
        x.pass(1, 45, 0, 0);
        Check.due("RIPE then", x.ofField(0, 4), 2);
    }

    private static void soaksByRain() {
        Check.due("rain 1", dampAfter(0, 20, 1, 0, 1), 21);
        Check.due("rain 7 twice", dampAfter(70, 20, 2, 0, 7), 34);
        Check.due("up to 40", dampAfter(0, 20, 1, 0, 20), 40);
        Check.due("40 at most", dampAfter(0, 21, 1, 0, 20), 40);
        Check.due("40 at most, ripe", dampAfter(100, 40, 3, 0, 1), 40);
    }

    private static void fieldByField() {
        WheatRun x = new WheatRun();
        x.field(0, 0, 100, 50, 0);
        x.field(1, 0, 100, 50, 0);
        x.field(2, 0, 100, 50, 0);
        x.crop(0, 59, 30);
        x.crop(1, 98, 8);
        x.crop(2, 20, 20);
        x.pass(13, 15, 32, 0);
        int[][] want = {{72, 17, 0}, {100, 8, 2}, {33, 20, 0}};
        for (int field = 0; field < 3; field++) {
            for (int what = 0; what < 3; what++) {
                Check.due("field " + field + ", " + (what + 4), x.ofField(field, what + 4), want[field][what]);
            }
        }
    }
}
