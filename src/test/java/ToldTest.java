/** Promises 1 to 7: what is told. */
final class ToldTest {
    private ToldTest() {
    }

    public static void main(String[] args) {
        promise01NewObject();
        promise02Field();
        promise02FieldEdges();
        promise02FieldThrows();
        promise03Crop();
        promise03CropThrows();
        promise04Combine();
        promise05Truck();
        promise06Elevator();
        promise06ElevatorThrows();
        promise07Price();
        Check.end();
    }

    private static void promise01NewObject() {
        WheatRun x = new WheatRun();
        for (int what = 0; what <= 12; what++) {
            Check.due("many(" + what + ") of a new land", x.many(what), what == 8 ? 1000 : 0);
        }
        for (int farmer = 0; farmer <= 3; farmer++) {
            Check.due("owed of a new land", x.owed(farmer, false), 0);
            Check.due("owed of a new land, landlords", x.owed(farmer, true), 0);
        }
        Check.dueExactly("meanDamp of a new land", x.meanDamp(), 0.0);
        Check.dueThrown("ofField of a new land", x, Check.INDEX, () -> x.ofField(0, 0));
        Check.dueThrown("ofCombine of a new land", x, Check.INDEX, () -> x.ofCombine(0, 0));
        Check.dueThrown("ofTruck of a new land", x, Check.INDEX, () -> x.ofTruck(0, 0));
        Check.dueThrown("ofTicket of a new land", x, Check.INDEX, () -> x.ofTicket(0, 0));
        Check.dueThrown("train of a new land", x, Check.INDEX, () -> x.train(0, 1));
        WheatRun other = new WheatRun();
        other.field(0, 0, 1, 10, 0);
        Check.due("another object's field", x.many(1), 0);
    }

    private static void promise02Field() {
        WheatRun x = new WheatRun();
        Check.due("first field", x.field(2, 123, 77, 45, 30), 0);
        Check.due("second field", x.field(1, 200, 10, 20, 0), 1);
        int[] first = {2, 123, 77, 0, 0, 30, 0, 0, 0, 0, -1, 0};
        int[] second = {1, 200, 10, 0, 0, 30, 0, 0, 0, 0, -1, 0};
        for (int what = 0; what <= 11; what++) {
            Check.due("ofField(0, " + what + ")", x.ofField(0, what), first[what]);
            Check.due("ofField(1, " + what + ")", x.ofField(1, what), second[what]);
        }
        Check.due("FIELDS", x.many(1), 2);
        Check.due("ACRES", x.many(2), 87);
    }

    private static void promise02FieldEdges() {
        WheatRun x = new WheatRun();
        Check.due("least field", x.field(0, 0, 1, 10, 0), 0);
        Check.due("greatest field", x.field(3, 300, 200, 90, 50), 1);
        for (int i = 2; i < 8; i++) {
            Check.due("field " + i, x.field(0, i, 5, 10, 0), i);
        }
        Check.dueThrown("a ninth field", x, Check.STATE, () -> x.field(0, 0, 1, 10, 0));
        Check.dueThrown("a ninth field, out of range", x, Check.ARGUMENT, () -> x.field(0, 0, 0, 10, 0));
        Check.dueThrown("a ninth field, no farmer", x, Check.INDEX, () -> x.field(-1, 0, 0, 10, 0));
        Check.due("FIELDS", x.many(1), 8);
    }

    private static void promise02FieldThrows() {
        WheatRun x = new WheatRun();
        Check.dueThrown("farmer -1", x, Check.INDEX, () -> x.field(-1, 0, 1, 10, 0));
        Check.dueThrown("farmer 4", x, Check.INDEX, () -> x.field(4, 0, 1, 10, 0));
        Check.dueThrown("farmer before mile", x, Check.INDEX, () -> x.field(4, -1, 0, 9, 51));
        Check.dueThrown("mile -1", x, Check.ARGUMENT, () -> x.field(0, -1, 1, 10, 0));
        Check.dueThrown("mile 301", x, Check.ARGUMENT, () -> x.field(0, 301, 1, 10, 0));
        Check.dueThrown("acres 0", x, Check.ARGUMENT, () -> x.field(0, 0, 0, 10, 0));
        Check.dueThrown("acres 201", x, Check.ARGUMENT, () -> x.field(0, 0, 201, 10, 0));
        Check.dueThrown("bushels 9", x, Check.ARGUMENT, () -> x.field(0, 0, 1, 9, 0));
        Check.dueThrown("bushels 91", x, Check.ARGUMENT, () -> x.field(0, 0, 1, 91, 0));
        Check.dueThrown("share -1", x, Check.ARGUMENT, () -> x.field(0, 0, 1, 10, -1));
        Check.dueThrown("share 51", x, Check.ARGUMENT, () -> x.field(0, 0, 1, 10, 51));
        Check.dueThrown("extremes", x, Check.INDEX, () -> x.field(Integer.MIN_VALUE, 0, 1, 10, 0));
        Check.dueThrown("extremes", x, Check.ARGUMENT, () -> x.field(0, Integer.MAX_VALUE, 1, 10, 0));
        Check.due("FIELDS", x.many(1), 0);
    }

    private static void promise03Crop() {
        WheatRun x = new WheatRun();
        x.field(0, 0, 10, 10, 0);
        x.field(0, 0, 10, 10, 0);
        Check.due("crop, first", x.crop(1, 70, 22), 0);
        Check.due("RIPE", x.ofField(1, 4), 70);
        Check.due("DAMP", x.ofField(1, 5), 22);
        Check.due("RIPE of the other", x.ofField(0, 4), 0);
        Check.due("DAMP of the other", x.ofField(0, 5), 30);
        Check.due("crop, greatest", x.crop(1, 100, 40), 70);
        Check.due("crop, least", x.crop(1, 0, 5), 100);
        Check.due("RIPE, least", x.ofField(1, 4), 0);
        Check.due("DAMP, least", x.ofField(1, 5), 5);
    }

    private static void promise03CropThrows() {
        WheatRun x = new WheatRun();
        x.field(0, 0, 10, 10, 0);
        Check.dueThrown("field -1", x, Check.INDEX, () -> x.crop(-1, 0, 5));
        Check.dueThrown("field 1", x, Check.INDEX, () -> x.crop(1, 0, 5));
        Check.dueThrown("field before ripe", x, Check.INDEX, () -> x.crop(1, -1, 4));
        Check.dueThrown("ripe -1", x, Check.ARGUMENT, () -> x.crop(0, -1, 5));
        Check.dueThrown("ripe 101", x, Check.ARGUMENT, () -> x.crop(0, 101, 5));
        Check.dueThrown("damp 4", x, Check.ARGUMENT, () -> x.crop(0, 50, 4));
        Check.dueThrown("damp 41", x, Check.ARGUMENT, () -> x.crop(0, 50, 41));
    }

    private static void promise04Combine() {
        WheatRun x = new WheatRun();
        Check.due("first combine", x.combine(17, 20), 0);
        int[] first = {17, 0, -1, 0, 0, -1, 0, 0};
        for (int what = 0; what <= 7; what++) {
            Check.due("ofCombine(0, " + what + ")", x.ofCombine(0, what), first[what]);
        }
        Check.dueThrown("mile -1", x, Check.ARGUMENT, () -> x.combine(-1, 1));
        Check.dueThrown("mile 301", x, Check.ARGUMENT, () -> x.combine(301, 1));
        Check.dueThrown("pace 0", x, Check.ARGUMENT, () -> x.combine(0, 0));
        Check.dueThrown("pace 21", x, Check.ARGUMENT, () -> x.combine(0, 21));
        Check.due("second combine", x.combine(0, 1), 1);
        Check.due("third combine", x.combine(300, 1), 2);
        Check.due("fourth combine", x.combine(5, 5), 3);
        Check.due("third combine's mile", x.ofCombine(2, 0), 300);
        Check.dueThrown("a fifth combine", x, Check.STATE, () -> x.combine(0, 1));
        Check.dueThrown("a fifth combine, out of range", x, Check.ARGUMENT, () -> x.combine(0, 0));
        Check.due("COMBINES", x.many(3), 4);
    }

    private static void promise05Truck() {
        WheatRun x = new WheatRun();
        Check.due("first truck", x.truck(300), 0);
        int[] first = {300, 0, -1, 0, 0, 0, 0, 0};
        for (int what = 0; what <= 7; what++) {
            Check.due("ofTruck(0, " + what + ")", x.ofTruck(0, what), first[what]);
        }
        Check.dueThrown("mile -1", x, Check.ARGUMENT, () -> x.truck(-1));
        Check.dueThrown("mile 301", x, Check.ARGUMENT, () -> x.truck(301));
        Check.due("second truck", x.truck(0), 1);
        Check.due("third truck", x.truck(1), 2);
        Check.due("fourth truck", x.truck(2), 3);
        Check.dueThrown("a fifth truck", x, Check.STATE, () -> x.truck(0));
        Check.dueThrown("a fifth truck, out of range", x, Check.ARGUMENT, () -> x.truck(301));
        Check.due("TRUCKS", x.many(5), 4);
    }

    private static void promise06Elevator() {
        WheatRun x = new WheatRun();
        Check.due("first elevator", x.elevator(0, 0, 0, 23, 5, 5), 0);
        Check.due("second elevator", x.elevator(300, 9999, 23, 0, 40, 40), 1);
        Check.due("third elevator", x.elevator(40, 500, 8, 18, 12, 20), 2);
        Check.due("ELEVATORS", x.many(6), 3);
        Check.due("all ROOM", x.many(9), 10499);
        Check.dueThrown("a fourth elevator", x, Check.STATE, () -> x.elevator(0, 0, 0, 23, 5, 5));
        Check.dueThrown("a fourth, out of range", x, Check.ARGUMENT, () -> x.elevator(0, 0, 0, 0, 5, 5));
        x.truck(100);
        Check.due("its MILE", x.haul(0, 2), 60);
        Check.due("its ROOM", x.train(2, 1), 501);
    }

    private static void promise06ElevatorThrows() {
        WheatRun x = new WheatRun();
        Check.dueThrown("mile -1", x, Check.ARGUMENT, () -> x.elevator(-1, 0, 0, 1, 5, 5));
        Check.dueThrown("mile 301", x, Check.ARGUMENT, () -> x.elevator(301, 0, 0, 1, 5, 5));
        Check.dueThrown("room -1", x, Check.ARGUMENT, () -> x.elevator(0, -1, 0, 1, 5, 5));
        Check.dueThrown("room 10000", x, Check.ARGUMENT, () -> x.elevator(0, 10000, 0, 1, 5, 5));
        Check.dueThrown("from -1", x, Check.ARGUMENT, () -> x.elevator(0, 0, -1, 1, 5, 5));
        Check.dueThrown("from 24", x, Check.ARGUMENT, () -> x.elevator(0, 0, 24, 1, 5, 5));
        Check.dueThrown("to -1", x, Check.ARGUMENT, () -> x.elevator(0, 0, 1, -1, 5, 5));
        Check.dueThrown("to 24", x, Check.ARGUMENT, () -> x.elevator(0, 0, 1, 24, 5, 5));
        Check.dueThrown("from as to", x, Check.ARGUMENT, () -> x.elevator(0, 0, 7, 7, 5, 5));
        Check.dueThrown("least 4", x, Check.ARGUMENT, () -> x.elevator(0, 0, 0, 1, 4, 5));
        Check.dueThrown("least 41", x, Check.ARGUMENT, () -> x.elevator(0, 0, 0, 1, 41, 41));
        Check.dueThrown("greatest below least", x, Check.ARGUMENT, () -> x.elevator(0, 0, 0, 1, 9, 8));
        Check.dueThrown("greatest 41", x, Check.ARGUMENT, () -> x.elevator(0, 0, 0, 1, 9, 41));
        Check.due("ELEVATORS", x.many(6), 0);
    }

    private static void promise07Price() {
        WheatRun x = new WheatRun();
        Check.due("price, first", x.price(999), 400);
        Check.dueThrown("price 0", x, Check.ARGUMENT, () -> x.price(0));
        Check.dueThrown("price -5", x, Check.ARGUMENT, () -> x.price(-5));
        Check.dueThrown("price 1000", x, Check.ARGUMENT, () -> x.price(1000));
        Check.due("price, after those that threw", x.price(1), 999);
        Check.due("price, last", x.price(500), 1);
    }
}
