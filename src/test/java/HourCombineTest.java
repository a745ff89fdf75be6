/** Promise 14, section 2: what a COMBINE does in an hour. With AIR 4 times DAMP a DAMP stays. */
final class HourCombineTest {
    private HourCombineTest() {
    }

    public static void main(String[] args) {
        goesTowardsItsField();
        doesNothingWithoutField();
        waitsByClock();
        cutsByTheCropOfThatHour();
        cutsWhatIsLeft();
        cutsWhatShatteredPartly();
        cutsWhatBringsNothing();
        cutsSingleBushels();
        waitsWithAnothersBushels();
        waitsWithAnothersBushelsForNothing();
        keepsTheGreatestDamp();
        forgetsDampWhenEmpty();
        ignoresDampOfCutsThatBringNothing();
        Check.end();
    }

    /** A land with one field and one combine that is sent to it, both at mile 0. */
    private static WheatRun with(int acres, int bushels, int pace) {
        WheatRun x = new WheatRun();
        x.field(0, 0, acres, bushels, 0);
        x.crop(0, 80, 15);
        x.combine(0, pace);
        x.cut(0, 0);
        return x;
    }

    private static void pass(WheatRun x, int hours) {
        x.pass(hours, 0, 60, 0);
    }

    private static void dueCombine(String what, WheatRun x, int combine, int tank, int acres, int idle) {
        Check.due(what + ": TANK", x.ofCombine(combine, 1), tank);
        Check.due(what + ": acres cut", x.ofCombine(combine, 6), acres);
        Check.due(what + ": IDLE", x.ofCombine(combine, 7), idle);
        Check.due(what + ": FIELD of the TANK", x.ofCombine(combine, 2) == -1 ? 1 : 0, tank == 0 ? 1 : 0);
    }

    private static void shatterWholly(WheatRun x, int damp) {
        x.crop(0, 100, 30);
        x.pass(20, 0, 0, 20);
        x.crop(0, 100, damp);
        Check.due("LOST", x.ofField(0, 6), 100);
    }

    private static void goesTowardsItsField() {
        WheatRun x = new WheatRun();
        x.field(0, 100, 50, 10, 0);
        x.crop(0, 80, 15);
        x.combine(145, 1);
        x.combine(61, 1);
        x.combine(80, 1);
        x.combine(100, 1);
        for (int i = 0; i < 4; i++) {
            x.cut(i, 0);
        }
        int[][] miles = {{125, 81, 100, 100}, {105, 100, 100, 100}, {100, 100, 100, 100}, {100, 100, 100, 100}};
        int[][] idle = {{0, 0, 0, 1}, {0, 0, 1, 2}, {0, 1, 2, 3}, {1, 2, 3, 4}};
        for (int hour = 0; hour < 4; hour++) {
            x.pass(1, 0, 60, hour % 2);
            for (int i = 0; i < 4; i++) {
                Check.due("MILE of " + i + " after " + hour, x.ofCombine(i, 0), miles[hour][i]);
                Check.due("IDLE of " + i + " after " + hour, x.ofCombine(i, 7), idle[hour][i]);
            }
        }
        WheatRun y = new WheatRun();
        y.field(0, 0, 50, 10, 0);
        y.crop(0, 80, 15);
        y.combine(30, 5);
        pass(y, 8);
        y.cut(0, 0);
        pass(y, 2);
        dueCombine("came there and did not cut yet", y, 0, 0, 0, 0);
        pass(y, 1);
        dueCombine("cuts in the hour after", y, 0, 50, 5, 0);
    }

    private static void doesNothingWithoutField() {
        WheatRun x = with(50, 10, 5);
        x.cut(0, -1);
        pass(x, 12);
        dueCombine("without a FIELD", x, 0, 0, 0, 0);
    }

    private static void waitsByClock() {
        WheatRun x = with(200, 10, 1);
        pass(x, 7);
        dueCombine("CLOCK 7", x, 0, 0, 0, 7);
        pass(x, 1);
        dueCombine("CLOCK 8", x, 0, 10, 1, 7);
        pass(x, 15);
        dueCombine("CLOCK 23", x, 0, 160, 16, 7);
        pass(x, 1);
        dueCombine("CLOCK 0", x, 0, 160, 16, 8);
        pass(x, 8);
        dueCombine("CLOCK 8 of the next day", x, 0, 170, 17, 15);
    }

    private static void cutsByTheCropOfThatHour() {
        WheatRun x = with(50, 10, 5);
        pass(x, 7);
        x.crop(0, 79, 20);
        x.pass(1, 15, 0, 0);
        dueCombine("80 and 19 by then", x, 0, 50, 5, 7);
        x.crop(0, 80, 19);
        x.pass(1, 0, 80, 0);
        dueCombine("20 by then", x, 0, 50, 5, 8);
    }

    private static void cutsWhatIsLeft() {
        WheatRun x = with(5, 10, 3);
        pass(x, 8);
        dueCombine("first hour", x, 0, 30, 3, 7);
        pass(x, 1);
        dueCombine("second hour", x, 0, 50, 5, 7);
        pass(x, 1);
        dueCombine("all CUT", x, 0, 50, 5, 8);
        Check.due("CUT", x.ofField(0, 3), 5);
        Check.due("WEAR", x.ofCombine(0, 3), 5);
    }

    private static void cutsWhatShatteredPartly() {
        WheatRun x = with(100, 50, 2);
        x.crop(0, 100, 15);
        x.pass(1, 0, 60, 10);
        x.crop(0, 80, 15);
        pass(x, 7);
        dueCombine("50 times 95 / 100", x, 0, 94, 2, 7);
    }

    private static void cutsWhatBringsNothing() {
        WheatRun x = with(100, 10, 6);
        x.crop(0, 100, 15);
        x.pass(18, 0, 60, 20);
        x.crop(0, 100, 15);
        pass(x, 1);
        dueCombine("LOST 90", x, 0, 6, 6, 18);
        x.pass(1, 0, 60, 10);
        x.crop(0, 100, 15);
        pass(x, 1);
        dueCombine("LOST 95", x, 0, 6, 12, 19);
        Check.due("WEAR", x.ofCombine(0, 3), 12);
        Check.due("CUT", x.ofField(0, 3), 12);
        WheatRun y = with(10, 90, 6);
        shatterWholly(y, 15);
        pass(y, 1);
        dueCombine("LOST 100", y, 0, 0, 6, 20);
        pass(y, 1);
        dueCombine("LOST 100, the rest", y, 0, 0, 10, 20);
        pass(y, 1);
        dueCombine("LOST 100, nothing left", y, 0, 0, 10, 21);
        Check.due("MAP", y.ofField(0, 7), 0);
        Check.due("CORRECTION", y.ofField(0, 10), -1);
    }

    /** LOST 95: what had a YIELD of 20 brings 1. */
    private static void shatterToOne(WheatRun x, int field) {
        x.crop(field, 100, 30);
        x.pass(19, 0, 0, 20);
        x.crop(field, 100, 15);
        Check.due("LOST", x.ofField(field, 6), 95);
    }

    private static void cutsSingleBushels() {
        WheatRun x = with(100, 20, 1);
        x.field(0, 0, 50, 10, 0);
        x.truck(0);
        x.truck(0);
        shatterToOne(x, 0);
        x.crop(0, 100, 18);
        x.pass(1, 0, 72, 0);
        dueCombine("one", x, 0, 1, 1, 19);
        Check.due("on the way", x.ofField(0, 9), 1);
        x.crop(1, 80, 15);
        x.cut(0, 1);
        pass(x, 1);
        dueCombine("one of another FIELD", x, 0, 1, 1, 20);
        x.cut(0, 0);
        pass(x, 1);
        dueCombine("a second", x, 0, 2, 2, 20);
        x.cut(0, -1);
        x.fetch(0, 0);
        pass(x, 1);
        Check.due("LOAD of two", x.ofTruck(0, 1), 2);
        Check.due("the greater DAMP", x.ofTruck(0, 3), 18);
        x.stop(0);
        x.crop(0, 100, 16);
        x.cut(0, 0);
        x.fetch(1, 0);
        x.pass(9, 0, 64, 0);
        Check.due("LOAD of one", x.ofTruck(1, 1), 1);
        x.crop(0, 100, 15);
        x.fetch(1, 0);
        pass(x, 1);
        Check.due("LOAD of another one", x.ofTruck(1, 1), 2);
        Check.due("the greater DAMP", x.ofTruck(1, 3), 16);
    }

    private static void waitsWithAnothersBushels() {
        WheatRun x = with(100, 10, 5);
        x.field(0, 0, 50, 10, 0);
        x.crop(1, 80, 15);
        x.truck(0);
        pass(x, 8);
        x.cut(0, 1);
        pass(x, 2);
        dueCombine("bushels of 0 at 1", x, 0, 50, 5, 9);
        Check.due("FIELD of the TANK", x.ofCombine(0, 2), 0);
        x.fetch(0, 0);
        pass(x, 1);
        dueCombine("fetched after it waited", x, 0, 0, 5, 10);
        pass(x, 1);
        Check.due("cut and fetched", x.ofCombine(0, 6), 10);
        Check.due("the TRUCK has another FIELD's", x.ofTruck(0, 1), 50);
        dueCombine("cuts at 1 then", x, 0, 50, 10, 10);
        Check.due("FIELD of the TANK", x.ofCombine(0, 2), 1);
    }

    private static void waitsWithAnothersBushelsForNothing() {
        WheatRun x = with(100, 10, 5);
        x.field(0, 0, 50, 10, 0);
        x.crop(1, 80, 15);
        pass(x, 1);
        shatterWholly(x, 15);
        x.crop(1, 80, 15);
        x.cut(0, 1);
        pass(x, 1);
        dueCombine("filled at 1", x, 0, 50, 5, 21);
        x.cut(0, 0);
        pass(x, 1);
        dueCombine("waits at 0, that brings nothing", x, 0, 50, 5, 22);
    }

    private static void keepsTheGreatestDamp() {
        WheatRun x = with(200, 70, 5);
        x.truck(0);
        x.truck(0);
        pass(x, 7);
        x.crop(0, 80, 13);
        x.pass(1, 0, 52, 0);
        x.fetch(0, 0);
        x.pass(2, 0, 52, 0);
        Check.due("LOAD", x.ofTruck(0, 1), 700);
        Check.due("DAMP", x.ofTruck(0, 3), 13);
        x.stop(0);
        x.crop(0, 80, 19);
        x.pass(1, 0, 76, 0);
        x.fetch(0, 0);
        x.crop(0, 80, 12);
        x.pass(1, 0, 48, 0);
        Check.due("a part", x.ofTruck(0, 1), 800);
        Check.due("DAMP of a part", x.ofTruck(0, 3), 19);
        Check.due("left in the TANK", x.ofCombine(0, 1), 250);
        x.pass(1, 0, 48, 0);
        Check.due("more in the TANK", x.ofCombine(0, 1), 390);
        x.fetch(1, 0);
        x.pass(1, 0, 48, 0);
        Check.due("the rest", x.ofTruck(1, 1), 390);
        Check.due("DAMP of the rest", x.ofTruck(1, 3), 19);
    }

    private static void forgetsDampWhenEmpty() {
        WheatRun x = with(200, 10, 5);
        x.truck(0);
        x.truck(0);
        pass(x, 7);
        x.crop(0, 80, 19);
        x.fetch(0, 0);
        x.pass(1, 0, 76, 0);
        Check.due("DAMP of the first", x.ofTruck(0, 3), 19);
        x.stop(0);
        x.crop(0, 80, 12);
        x.fetch(1, 0);
        x.pass(1, 0, 48, 0);
        Check.due("DAMP of the second", x.ofTruck(1, 3), 12);
        x.crop(0, 80, 14);
        x.pass(1, 0, 56, 0);
        Check.due("more DAMP", x.ofTruck(1, 3), 14);
        x.crop(0, 80, 13);
        x.pass(1, 0, 52, 0);
        Check.due("less DAMP", x.ofTruck(1, 3), 14);
    }

    private static void ignoresDampOfCutsThatBringNothing() {
        WheatRun x = with(200, 10, 5);
        x.truck(0);
        pass(x, 7);
        x.crop(0, 80, 12);
        x.pass(1, 0, 48, 0);
        shatterWholly(x, 19);
        x.crop(0, 100, 15);
        pass(x, 3);
        x.crop(0, 100, 19);
        x.pass(3, 0, 76, 0);
        dueCombine("cut for nothing", x, 0, 50, 20, 30);
        x.fetch(0, 0);
        x.pass(1, 0, 76, 0);
        Check.due("LOAD", x.ofTruck(0, 1), 50);
        Check.due("DAMP", x.ofTruck(0, 3), 12);
    }
}
