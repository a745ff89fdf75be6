/** Promises 1 to 7: what is told; their ends and what they throw are in the tests named Edge. */
final class ToldTest {
    private ToldTest() {
    }

    public static void main(String[] args) {
        promise01ObjectsAreApart();
        promise02Field();
        promise03Crop();
        promise04Combine();
        promise05Truck();
        promise06Elevator();
        promise07Price();
        Check.end();
    }

    private static void promise01ObjectsAreApart() {
        WheatRun x = new WheatRun();
        WheatRun other = new WheatRun();
        other.field(0, 0, 1, 10, 0);
        Check.due("another object's field", x.many(1), 0);
    }

    private static void promise02Field() {
        WheatRun x = new WheatRun();
        Check.due("first field", x.field(2, 123, 77, 45, 30), 0);
        Check.due("second field", x.field(1, 200, 10, 20, 0), 1);
        int[] first = {2, 123, 77, 0, 0, 30, 0, 0, 0, 0, -1, 0};
        int[] second = {1, 200, 10, 0, 0, 30, 0, 0, 0, 0, -1, 0};
        for (int what = 0; what <= 11; what++) {
            Check.due("ofField(0, " + what + ")", x.ofField(0, what), first[what]);
            Check.due("ofField(1, " + what + ")", x.ofField(1, what), second[what]);
        }
        Check.due("FIELDS", x.many(1), 2);
        Check.due("ACRES", x.many(2), 87);
    }

    private static void promise03Crop() {
        WheatRun x = new WheatRun();
        x.field(0, 0, 10, 10, 0);
        x.field(0, 0, 10, 10, 0);
        Check.due("crop, first", x.crop(1, 70, 22), 0);
        Check.due("RIPE", x.ofField(1, 4), 70);
        Check.due("DAMP", x.ofField(1, 5), 22);
        Check.due("RIPE of the other", x.ofField(0, 4), 0);
        Check.due("DAMP of the other", x.ofField(0, 5), 30);
        Check.due("crop, greatest", x.crop(1, 100, 40), 70);
        Check.due("crop, least", x.crop(1, 0, 5), 100);
        Check.due("RIPE, least", x.ofField(1, 4), 0);
        Check.due("DAMP, least", x.ofField(1, 5), 5);
    }

    private static void promise04Combine() {
        WheatRun x = new WheatRun();
        Check.due("first combine", x.combine(17, 20), 0);
        int[] first = {17, 0, -1, 0, 0, -1, 0, 0};
        for (int what = 0; what <= 7; what++) {
            Check.due("ofCombine(0, " + what + ")", x.ofCombine(0, what), first[what]);
        }
        Check.due("second combine", x.combine(0, 1), 1);
        Check.due("third combine", x.combine(300, 1), 2);
        Check.due("fourth combine", x.combine(5, 5), 3);
        Check.due("third combine's mile", x.ofCombine(2, 0), 300);
        Check.due("COMBINES", x.many(3), 4);
    }

    private static void promise05Truck() {
        WheatRun x = new WheatRun();
        Check.due("first truck", x.truck(300), 0);
        int[] first = {300, 0, -1, 0, 0, 0, 0, 0};
        for (int what = 0; what <= 7; what++) {
            Check.due("ofTruck(0, " + what + ")", x.ofTruck(0, what), first[what]);
        }
        Check.due("second truck", x.truck(0), 1);
        Check.due("third truck", x.truck(1), 2);
        Check.due("fourth truck", x.truck(2), 3);
        Check.due("TRUCKS", x.many(5), 4);
    }

    private static void promise06Elevator() {
        WheatRun x = new WheatRun();
        Check.due("first elevator", x.elevator(0, 0, 0, 23, 5, 5), 0);
        Check.due("second elevator", x.elevator(300, 9999, 23, 0, 40, 40), 1);
        Check.due("third elevator", x.elevator(40, 500, 8, 18, 12, 20), 2);
        Check.due("ELEVATORS", x.many(6), 3);
        Check.due("all ROOM", x.many(9), 10499);
        x.truck(100);
        Check.due("its MILE", x.haul(0, 2), 60);
        Check.due("its ROOM", x.train(2, 1), 501);
    }

    private static void promise07Price() {
        WheatRun x = new WheatRun();
        Check.due("price, first", x.price(999), 400);
        Check.due("price, second", x.price(1), 999);
        Check.due("price, last", x.price(500), 1);
    }
}
