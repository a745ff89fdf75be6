/** Promise 14, section 1: what an hour does to a FIELD. */
final class HourFieldTest {
    private HourFieldTest() {
    }

    public static void main(String[] args) {
        ripensByWarmth();
        ripensToItsEnd();
        soaksByRain();
        driesWhenRipe();
        driesByTheRipenessOfThatHour();
        driesTowardsAir();
        shattersInTheAfternoon();
        shattersWhenDryAndRipe();
        shattersByRain();
        shattersToItsEnd();
        fieldByField();
        Check.end();
    }

    private static WheatRun with(int ripe, int damp) {
        WheatRun x = new WheatRun();
        x.field(0, 0, 100, 50, 0);
        x.crop(0, ripe, damp);
        return x;
    }

    private static int ripeAfter(int ripe, int hours, int warmth) {
        WheatRun x = with(ripe, 30);
        x.pass(hours, warmth, 0, 0);
        return x.ofField(0, 4);
    }

    private static int dampAfter(int ripe, int damp, int hours, int air, int rain) {
        WheatRun x = with(ripe, damp);
        x.pass(hours, 0, air, rain);
        return x.ofField(0, 5);
    }

    private static int lostAfter(int ripe, int damp, int hours, int air, int rain) {
        WheatRun x = with(ripe, damp);
        x.pass(hours, 0, air, rain);
        return x.ofField(0, 6);
    }

    private static void ripensByWarmth() {
        Check.due("warmth 0", ripeAfter(10, 1, 0), 10);
        Check.due("warmth 14", ripeAfter(10, 1, 14), 10);
        Check.due("warmth 15", ripeAfter(10, 1, 15), 11);
        Check.due("warmth 29", ripeAfter(10, 1, 29), 11);
        Check.due("warmth 30", ripeAfter(10, 1, 30), 12);
        Check.due("warmth 45", ripeAfter(10, 5, 45), 20);
        WheatRun x = with(10, 30);
        x.pass(2, 30, 0, 20);
        Check.due("with rain too", x.ofField(0, 4), 14);
    }

    private static void ripensToItsEnd() {
        Check.due("99 and 2", ripeAfter(99, 1, 30), 100);
        Check.due("99 and 1", ripeAfter(99, 1, 15), 100);
        Check.due("98 and 2", ripeAfter(98, 1, 30), 100);
        Check.due("100 and more", ripeAfter(100, 3, 30), 100);
        Check.due("100, cold", ripeAfter(100, 3, 0), 100);
    }

    private static void soaksByRain() {
        Check.due("rain 1", dampAfter(0, 20, 1, 0, 1), 21);
        Check.due("rain 7 twice", dampAfter(70, 20, 2, 0, 7), 34);
        Check.due("up to 40", dampAfter(0, 20, 1, 0, 20), 40);
        Check.due("40 at most", dampAfter(0, 21, 1, 0, 20), 40);
        Check.due("40 at most, ripe", dampAfter(100, 40, 3, 0, 1), 40);
    }

    private static void driesWhenRipe() {
        Check.due("RIPE 59", dampAfter(59, 30, 3, 0, 0), 30);
        Check.due("RIPE 60", dampAfter(60, 30, 3, 0, 0), 27);
        Check.due("RIPE 59 in damp air", dampAfter(59, 10, 3, 100, 0), 10);
    }

    private static void driesByTheRipenessOfThatHour() {
        WheatRun x = with(58, 30);
        x.pass(1, 15, 0, 0);
        Check.due("59 by then", x.ofField(0, 5), 30);
        x.pass(1, 15, 0, 0);
        Check.due("60 by then", x.ofField(0, 5), 29);
    }

    private static void driesTowardsAir() {
        Check.due("air 43 is 10: above", dampAfter(60, 11, 1, 43, 0), 10);
        Check.due("air 43 is 10: there", dampAfter(60, 10, 4, 43, 0), 10);
        Check.due("air 43 is 10: below", dampAfter(60, 9, 1, 43, 0), 10);
        Check.due("air 44 is 11", dampAfter(60, 9, 4, 44, 0), 11);
        Check.due("air 100 is 25: up", dampAfter(60, 20, 8, 100, 0), 25);
        Check.due("air 100 is 25: down", dampAfter(60, 40, 20, 100, 0), 25);
        Check.due("air 19 is 4: 5 at least", dampAfter(60, 6, 4, 19, 0), 5);
        Check.due("air 0: 5 at least", dampAfter(60, 5, 4, 0, 0), 5);
        Check.due("air 20 is 5", dampAfter(60, 7, 1, 20, 0), 6);
    }

    private static void shattersInTheAfternoon() {
        Check.due("CLOCK 11", lostAfter(100, 10, 11, 40, 0), 0);
        Check.due("CLOCK 12", lostAfter(100, 10, 12, 40, 0), 1);
        Check.due("CLOCK 14", lostAfter(100, 10, 14, 40, 0), 3);
        Check.due("CLOCK 17", lostAfter(100, 10, 17, 40, 0), 6);
        Check.due("CLOCK 18", lostAfter(100, 10, 18, 40, 0), 6);
        Check.due("CLOCK 11 of the next day", lostAfter(100, 10, 35, 40, 0), 6);
        Check.due("CLOCK 12 of the next day", lostAfter(100, 10, 36, 40, 0), 7);
    }

    private static void shattersWhenDryAndRipe() {
        Check.due("DAMP 14", lostAfter(100, 14, 18, 56, 0), 0);
        Check.due("DAMP 13", lostAfter(100, 13, 18, 52, 0), 6);
        Check.due("RIPE 99", lostAfter(99, 10, 18, 40, 0), 0);
        WheatRun x = with(99, 15);
        x.pass(11, 0, 60, 0);
        x.pass(1, 15, 0, 0);
        Check.due("RIPE 100 and DAMP 14 by then", x.ofField(0, 6), 0);
        x.pass(1, 15, 0, 0);
        Check.due("RIPE 100 and DAMP 13 by then", x.ofField(0, 6), 1);
        WheatRun y = with(99, 14);
        y.pass(11, 0, 56, 0);
        y.pass(1, 15, 0, 0);
        Check.due("both by then", y.ofField(0, 6), 1);
    }

    private static void shattersByRain() {
        Check.due("rain 9", lostAfter(100, 30, 2, 0, 9), 0);
        Check.due("rain 10", lostAfter(100, 30, 1, 0, 10), 5);
        Check.due("rain 20", lostAfter(100, 30, 2, 0, 20), 10);
        Check.due("rain 10, RIPE 99", lostAfter(99, 30, 2, 0, 10), 0);
        WheatRun x = with(100, 5);
        x.pass(12, 0, 20, 0);
        Check.due("dry ahead of rain", x.ofField(0, 6), 1);
        x.pass(1, 0, 20, 9);
        Check.due("rain makes it damp: 14", x.ofField(0, 6), 1);
        x.crop(0, 100, 5);
        x.pass(1, 0, 20, 8);
        Check.due("rain leaves it dry: 13", x.ofField(0, 6), 2);
        x.crop(0, 100, 5);
        x.pass(1, 0, 20, 10);
        Check.due("rain of 10 at noon", x.ofField(0, 6), 7);
    }

    private static void shattersToItsEnd() {
        Check.due("19 hours", lostAfter(100, 30, 19, 0, 20), 95);
        Check.due("20 hours", lostAfter(100, 30, 20, 0, 20), 100);
        Check.due("21 hours", lostAfter(100, 30, 21, 0, 20), 100);
        WheatRun x = with(100, 10);
        x.pass(14, 0, 40, 0);
        x.pass(20, 0, 40, 20);
        Check.due("3 and 97", x.ofField(0, 6), 100);
        x.crop(0, 100, 10);
        x.pass(6, 0, 40, 0);
        Check.due("100 stays", x.ofField(0, 6), 100);
    }

    private static void fieldByField() {
        WheatRun x = new WheatRun();
        x.field(0, 0, 100, 50, 0);
        x.field(1, 0, 100, 50, 0);
        x.field(2, 0, 100, 50, 0);
        x.crop(0, 59, 30);
        x.crop(1, 98, 8);
        x.crop(2, 20, 20);
        x.pass(13, 15, 32, 0);
        int[][] want = {{72, 17, 0}, {100, 8, 2}, {33, 20, 0}};
        for (int field = 0; field < 3; field++) {
            for (int what = 0; what < 3; what++) {
                Check.due("field " + field + ", " + (what + 4), x.ofField(field, what + 4), want[field][what]);
            }
        }
    }
}
