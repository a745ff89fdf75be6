/** Promises 15 to 21: what one asks. */
final class AskedTest {
    private AskedTest() {
    }

    public static void main(String[] args) {
        WheatRun x = busy();
        promise15OfField(x);
        promise16OfCombine(x);
        promise17OfTruck(x);
        promise18OfTicket(x);
        promise19Owed(x);
        promise20Many(x);
        promise21MeanDamp(x);
        promise21MeanDampEdges();
        Check.end();
    }

    /**
     * At NOW 14: combine 0 cut 3 hours at field 0; combine 1 cut 6, 6 and 1 acres at field 1 and holds
     * them; combine 2 came to field 1, then to field 2, and waits; truck 0 sold the first 2 hours of
     * combine 0; truck 1 holds its third and waits at an elevator that wants it drier.
     */
    private static WheatRun busy() {
        WheatRun x = new WheatRun();
        x.field(3, 0, 200, 20, 25);
        x.field(1, 40, 50, 30, 10);
        x.field(1, 100, 7, 10, 0);
        x.crop(0, 80, 15);
        x.crop(1, 90, 15);
        x.crop(2, 20, 33);
        x.combine(0, 20);
        x.combine(0, 6);
        x.combine(5, 1);
        x.truck(0);
        x.truck(0);
        x.elevator(0, 900, 0, 23, 10, 40);
        x.elevator(0, 500, 0, 23, 10, 14);
        x.cut(0, 0);
        x.cut(1, 1);
        x.cut(2, 1);
        x.pass(7, 0, 60, 0);
        x.cut(2, 2);
        x.fetch(0, 0);
        x.pass(2, 0, 60, 0);
        x.haul(0, 0);
        x.fetch(1, 0);
        x.pass(1, 0, 60, 0);
        x.haul(1, 1);
        x.cut(0, -1);
        x.cut(1, -1);
        x.pass(4, 0, 60, 0);
        return x;
    }

    private static void promise15OfField(WheatRun x) {
        int[][] want = {
            {3, 0, 200, 60, 80, 15, 0, 384 + 388 + 392, 800, 400, -1, 0},
            {1, 40, 50, 13, 90, 15, 0, 178 + 178 + 29, 0, 390, -1, 0},
            {1, 100, 7, 0, 20, 33, 0, 0, 0, 0, -1, 1},
        };
        for (int field = 0; field < 3; field++) {
            for (int what = 0; what <= 11; what++) {
                Check.due("ofField(" + field + ", " + what + ")", x.ofField(field, what), want[field][what]);
            }
        }
    }

    private static void promise16OfCombine(WheatRun x) {
        int[][] want = {
            {0, 0, -1, 60, 0, -1, 60, 7},
            {40, 390, 1, 13, 0, -1, 13, 5},
            {100, 0, -1, 0, 0, 2, 0, 9},
        };
        for (int combine = 0; combine < 3; combine++) {
            for (int what = 0; what <= 7; what++) {
                String call = "ofCombine(" + combine + ", " + what + ")";
                Check.due(call, x.ofCombine(combine, what), want[combine][what]);
            }
        }
    }

    private static void promise17OfTruck(WheatRun x) {
        int[][] want = {
            {0, 0, -1, 0, 0, 0, 0, 0},
            {0, 400, 0, 15, 0, 0, 4, 0},
        };
        for (int truck = 0; truck < 2; truck++) {
            for (int what = 0; what <= 7; what++) {
                Check.due("ofTruck(" + truck + ", " + what + ")", x.ofTruck(truck, what), want[truck][what]);
            }
        }
    }

    private static void promise18OfTicket(WheatRun x) {
        int[] want = {0, 800, 15, 10, 0, 10, 2880};
        for (int what = 0; what <= 6; what++) {
            Check.due("ofTicket(0, " + what + ")", x.ofTicket(0, what), want[what]);
        }
    }

    private static void promise19Owed(WheatRun x) {
        for (int farmer = 0; farmer < 4; farmer++) {
            Check.due("FARMER " + farmer, x.owed(farmer, false), farmer == 3 ? 2160 : 0);
            Check.due("LANDLORDS of " + farmer, x.owed(farmer, true), farmer == 3 ? 720 : 0);
        }
    }

    private static void promise20Many(WheatRun x) {
        int[] want = {14, 3, 140 + 37 + 7, 3, 0, 2, 2, 1, 1160, 600, 790, 7 + 5 + 9, 4};
        for (int what = 0; what <= 12; what++) {
            Check.due("many(" + what + ")", x.many(what), want[what]);
        }
    }

    private static void promise21MeanDamp(WheatRun x) {
        Check.dueExactly("meanDamp", x.meanDamp(), (15.0 * 140 + 15.0 * 37 + 33.0 * 7) / 184.0);
    }

    private static void promise21MeanDampEdges() {
        WheatRun x = new WheatRun();
        Check.dueExactly("without FIELDS", x.meanDamp(), 0.0);
        x.field(0, 0, 2, 10, 0);
        Check.dueExactly("one", x.meanDamp(), 30.0);
        x.field(0, 0, 1, 10, 0);
        x.crop(1, 80, 15);
        Check.dueExactly("two", x.meanDamp(), 25.0);
        x.crop(1, 80, 10);
        Check.dueExactly("not rounded", x.meanDamp(), 70.0 / 3.0);
        x.crop(0, 80, 15);
        x.crop(1, 80, 15);
        x.combine(0, 1);
        x.cut(0, 0);
        x.pass(8, 0, 60, 0);
        x.crop(0, 80, 10);
        Check.dueExactly("by what is not CUT", x.meanDamp(), 12.5);
        x.crop(0, 80, 15);
        x.pass(1, 0, 60, 0);
        x.crop(0, 80, 40);
        Check.dueExactly("a CUT one counts no more", x.meanDamp(), 15.0);
        x.cut(0, 1);
        x.pass(1, 0, 60, 0);
        Check.due("all CUT but one acre, that waits", x.many(2), 1);
        x.truck(0);
        x.fetch(0, 0);
        x.pass(2, 0, 60, 0);
        Check.due("all CUT", x.many(2), 0);
        Check.dueExactly("without such", x.meanDamp(), 0.0);
    }
}
