/** Promise 14, section 3: what a TRUCK does in an hour, and when an ELEVATOR takes. */
final class HourTruckTest {
    private HourTruckTest() {
    }

    public static void main(String[] args) {
        keepsRestWhileItDoesNotDrive();
        followsItsCombine();
        takesWhatFits();
        takesOfOneFieldAlone();
        takesByNumbers();
        waitsAtTheElevator();
        Check.end();
    }

    private static void pass(WheatRun x, int hours) {
        x.pass(hours, 0, 60, 0);
    }

    private static void dueTruck(String what, WheatRun x, int truck, int mile, int hours, int rest, int driven) {
        Check.due(what + ": MILE", x.ofTruck(truck, 0), mile);
        Check.due(what + ": HOURS", x.ofTruck(truck, 4), hours);
        Check.due(what + ": REST", x.ofTruck(truck, 5), rest);
        Check.due(what + ": driven", x.ofTruck(truck, 7), driven);
    }

    private static void dueLoad(String what, WheatRun x, int truck, int load, int field, int damp, int queued) {
        Check.due(what + ": LOAD", x.ofTruck(truck, 1), load);
        Check.due(what + ": FIELD", x.ofTruck(truck, 2), field);
        Check.due(what + ": DAMP", x.ofTruck(truck, 3), damp);
        Check.due(what + ": QUEUED", x.ofTruck(truck, 6), queued);
    }

    /** At CLOCK 8 the truck has 10 acres' bushels of field 0, with a DAMP of 15; no HOURS, no place. */
    private static WheatRun loaded(int bushels) {
        WheatRun x = new WheatRun();
        x.field(0, 0, 200, bushels, 0);
        x.crop(0, 80, 15);
        x.combine(0, 10);
        x.truck(0);
        x.cut(0, 0);
        x.fetch(0, 0);
        pass(x, 8);
        x.cut(0, -1);
        x.stop(0);
        return x;
    }

    private static void keepsRestWhileItDoesNotDrive() {
        WheatRun x = loaded(10);
        x.elevator(70, 0, 0, 1, 5, 5);
        x.haul(0, 0);
        pass(x, 2);
        x.stop(0);
        pass(x, 5);
        dueTruck("rested 5", x, 0, 70, 2, 5, 70);
        x.haul(0, 0);
        pass(x, 3);
        dueTruck("at the ELEVATOR", x, 0, 70, 2, 5, 70);
        dueLoad("at the ELEVATOR", x, 0, 100, 0, 15, 3);
        x.stop(0);
        pass(x, 1);
        dueTruck("rested 6", x, 0, 70, 2, 6, 70);
        x.fetch(0, 0);
        pass(x, 1);
        dueTruck("drove: not rested", x, 0, 20, 3, 0, 120);
        x.stop(0);
        pass(x, 7);
        dueTruck("rested 7", x, 0, 20, 3, 7, 120);
    }

    private static void followsItsCombine() {
        WheatRun x = new WheatRun();
        x.field(0, 0, 200, 10, 0);
        x.combine(100, 10);
        x.cut(0, 0);
        x.truck(100);
        x.truck(0);
        x.truck(200);
        for (int i = 0; i < 3; i++) {
            x.fetch(i, 0);
        }
        pass(x, 1);
        dueTruck("goes with it", x, 0, 80, 1, 0, 20);
        dueTruck("goes to meet it", x, 1, 50, 1, 0, 50);
        dueTruck("goes behind it", x, 2, 150, 1, 0, 50);
        pass(x, 1);
        dueTruck("goes with it", x, 0, 60, 2, 0, 40);
        dueTruck("meets it", x, 1, 60, 2, 0, 60);
        dueTruck("goes behind it", x, 2, 100, 2, 0, 100);
    }

    private static void takesWhatFits() {
        WheatRun x = new WheatRun();
        x.field(0, 0, 200, 30, 0);
        x.crop(0, 80, 15);
        x.combine(0, 11);
        x.truck(0);
        x.cut(0, 0);
        x.fetch(0, 0);
        pass(x, 7);
        dueLoad("an empty TANK", x, 0, 0, -1, 0, 0);
        pass(x, 1);
        dueLoad("in the hour of the cut", x, 0, 330, 0, 15, 0);
        dueTruck("no HOURS", x, 0, 0, 0, 0, 0);
        pass(x, 1);
        dueLoad("more", x, 0, 660, 0, 15, 0);
        pass(x, 1);
        dueLoad("up to 800", x, 0, 800, 0, 15, 0);
        Check.due("TANK", x.ofCombine(0, 1), 190);
        x.crop(0, 80, 19);
        x.pass(1, 0, 76, 0);
        dueLoad("full: takes nothing, not its DAMP", x, 0, 800, 0, 15, 0);
        Check.due("TANK", x.ofCombine(0, 1), 400);
        Check.due("FIELD of the TANK", x.ofCombine(0, 2), 0);
        Check.due("bushels in TANKS and on TRUCKS", x.many(10), 1200);
    }

    private static void takesOfOneFieldAlone() {
        WheatRun x = loaded(10);
        x.field(1, 0, 200, 20, 0);
        x.crop(1, 80, 12);
        x.cut(0, 1);
        x.fetch(0, 0);
        pass(x, 1);
        dueLoad("of another FIELD", x, 0, 100, 0, 15, 0);
        Check.due("TANK", x.ofCombine(0, 1), 200);
        Check.due("of field 0 on the way", x.ofField(0, 9), 100);
        Check.due("of field 1 on the way", x.ofField(1, 9), 200);
        x.elevator(0, 1000, 0, 23, 5, 40);
        x.haul(0, 0);
        x.cut(0, -1);
        pass(x, 1);
        dueLoad("unloaded", x, 0, 0, -1, 0, 0);
        x.fetch(0, 0);
        pass(x, 1);
        dueLoad("of the other then", x, 0, 200, 1, 13, 0);
        Check.due("TANK", x.ofCombine(0, 1), 0);
    }

    private static void takesByNumbers() {
        WheatRun x = new WheatRun();
        x.field(0, 0, 200, 10, 0);
        x.crop(0, 80, 15);
        x.combine(0, 10);
        x.truck(0);
        x.truck(0);
        x.cut(0, 0);
        x.fetch(1, 0);
        x.fetch(0, 0);
        pass(x, 9);
        dueLoad("the first", x, 0, 200, 0, 15, 0);
        dueLoad("the second", x, 1, 0, -1, 0, 0);
    }

    private static void waitsAtTheElevator() {
        WheatRun x = loaded(10);
        x.elevator(60, 1000, 20, 21, 5, 40);
        x.haul(0, 0);
        pass(x, 2);
        dueLoad("comes there", x, 0, 100, 0, 15, 0);
        pass(x, 9);
        dueLoad("waits", x, 0, 100, 0, 15, 9);
        dueTruck("waits", x, 0, 60, 2, 0, 60);
        Check.due("open", x.pass(1, 0, 60, 0), 1);
        pass(x, 3);
        dueLoad("does not wait without LOAD", x, 0, 0, -1, 0, 9);
    }
}
