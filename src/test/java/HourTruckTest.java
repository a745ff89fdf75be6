/** Promise 14, section 3: what a TRUCK does in an hour, and when an ELEVATOR takes. */
final class HourTruckTest {
    private HourTruckTest() {
    }

    public static void main(String[] args) {
        drives();
        restsAfterTenHours();
        restsRatherThanTakes();
        restsWithoutPlace();
        restsAfterOneHour();
        keepsRestWhileItDoesNotDrive();
        followsItsCombine();
        takesWhatFits();
        takesOfOneFieldAlone();
        takesByNumbers();
        singleBushels();
        elevatorIsOpenByClock();
        elevatorTakesByDamp();
        elevatorTakesByRoom();
        waitsAtTheElevator();
        Check.end();
    }

    private static void pass(WheatRun x, int hours) {
        x.pass(hours, 0, 60, 0);
    }

    private static void dueTruck(String what, WheatRun x, int truck, int mile, int hours, int rest, int driven) {
        Check.due(what + ": MILE", x.ofTruck(truck, 0), mile);
        Check.due(what + ": HOURS", x.ofTruck(truck, 4), hours);
        Check.due(what + ": REST", x.ofTruck(truck, 5), rest);
        Check.due(what + ": driven", x.ofTruck(truck, 7), driven);
    }

    private static void dueLoad(String what, WheatRun x, int truck, int load, int field, int damp, int queued) {
        Check.due(what + ": LOAD", x.ofTruck(truck, 1), load);
        Check.due(what + ": FIELD", x.ofTruck(truck, 2), field);
        Check.due(what + ": DAMP", x.ofTruck(truck, 3), damp);
        Check.due(what + ": QUEUED", x.ofTruck(truck, 6), queued);
    }

    /** At CLOCK 8 the truck has 10 acres' bushels of field 0, with a DAMP of 15; no HOURS, no place. */
    private static WheatRun loaded(int bushels) {
        WheatRun x = new WheatRun();
        x.field(0, 0, 200, bushels, 0);
        x.crop(0, 80, 15);
        x.combine(0, 10);
        x.truck(0);
        x.cut(0, 0);
        x.fetch(0, 0);
        pass(x, 8);
        x.cut(0, -1);
        x.stop(0);
        return x;
    }

    private static void drives() {
        WheatRun x = new WheatRun();
        x.elevator(120, 0, 0, 1, 5, 5);
        x.truck(0);
        x.truck(171);
        x.truck(170);
        for (int i = 0; i < 3; i++) {
            x.haul(i, 0);
        }
        pass(x, 1);
        dueTruck("50 up", x, 0, 50, 1, 0, 50);
        dueTruck("50 down", x, 1, 121, 1, 0, 50);
        dueTruck("50 and there", x, 2, 120, 1, 0, 50);
        pass(x, 1);
        dueTruck("100 up", x, 0, 100, 2, 0, 100);
        dueTruck("1 down", x, 1, 120, 2, 0, 51);
        dueTruck("there", x, 2, 120, 1, 0, 50);
        pass(x, 2);
        dueTruck("20 up", x, 0, 120, 3, 0, 120);
        dueLoad("there without LOAD", x, 0, 0, -1, 0, 0);
    }

    private static void restsAfterTenHours() {
        WheatRun x = new WheatRun();
        x.elevator(0, 0, 0, 1, 5, 5);
        x.elevator(300, 0, 0, 1, 5, 5);
        x.truck(0);
        x.haul(0, 1);
        pass(x, 6);
        x.haul(0, 0);
        pass(x, 3);
        dueTruck("9 HOURS", x, 0, 150, 9, 0, 450);
        pass(x, 1);
        dueTruck("10 HOURS", x, 0, 100, 10, 0, 500);
        pass(x, 1);
        dueTruck("rests", x, 0, 100, 10, 1, 500);
        pass(x, 6);
        dueTruck("rested 7", x, 0, 100, 10, 7, 500);
        pass(x, 1);
        dueTruck("rested 8", x, 0, 100, 0, 0, 500);
        pass(x, 1);
        dueTruck("drives again", x, 0, 50, 1, 0, 550);
    }

    private static void restsRatherThanTakes() {
        WheatRun x = new WheatRun();
        x.field(0, 0, 200, 10, 0);
        x.crop(0, 80, 15);
        x.combine(0, 10);
        x.cut(0, 0);
        x.elevator(250, 1000, 0, 23, 5, 40);
        x.elevator(0, 1000, 0, 23, 5, 40);
        x.truck(0);
        x.haul(0, 0);
        pass(x, 5);
        x.fetch(0, 0);
        pass(x, 5);
        dueTruck("10 HOURS", x, 0, 0, 10, 0, 500);
        pass(x, 1);
        Check.due("TANK", x.ofCombine(0, 1), 400);
        dueLoad("rests at the COMBINE", x, 0, 0, -1, 0, 0);
        dueTruck("rests at the COMBINE", x, 0, 0, 10, 1, 500);
        pass(x, 8);
        dueLoad("takes then", x, 0, 400, 0, 15, 0);
        x.haul(0, 0);
        pass(x, 5);
        x.haul(0, 1);
        pass(x, 5);
        dueTruck("10 HOURS", x, 0, 0, 10, 0, 1000);
        pass(x, 7);
        dueLoad("rests at the ELEVATOR", x, 0, 400, 0, 15, 0);
        pass(x, 1);
        Check.due("TICKETS", x.many(7), 0);
        pass(x, 1);
        Check.due("TICKETS", x.many(7), 1);
    }

    private static void restsWithoutPlace() {
        WheatRun x = new WheatRun();
        x.elevator(70, 0, 0, 1, 5, 5);
        x.truck(0);
        pass(x, 9);
        dueTruck("never drove", x, 0, 0, 0, 0, 0);
        x.haul(0, 0);
        pass(x, 3);
        dueTruck("at its place", x, 0, 70, 2, 0, 70);
        x.stop(0);
        pass(x, 7);
        dueTruck("rested 7", x, 0, 70, 2, 7, 70);
        pass(x, 1);
        dueTruck("rested 8", x, 0, 70, 0, 0, 70);
        pass(x, 3);
        dueTruck("rests no more", x, 0, 70, 0, 0, 70);
    }

    private static void restsAfterOneHour() {
        WheatRun x = new WheatRun();
        x.elevator(30, 0, 0, 1, 5, 5);
        x.truck(0);
        x.haul(0, 0);
        pass(x, 1);
        x.stop(0);
        pass(x, 1);
        dueTruck("one HOUR", x, 0, 30, 1, 1, 30);
    }

    private static void keepsRestWhileItDoesNotDrive() {
        WheatRun x = loaded(10);
        x.elevator(70, 0, 0, 1, 5, 5);
        x.haul(0, 0);
        pass(x, 2);
        x.stop(0);
        pass(x, 5);
        dueTruck("rested 5", x, 0, 70, 2, 5, 70);
        x.haul(0, 0);
        pass(x, 3);
        dueTruck("at the ELEVATOR", x, 0, 70, 2, 5, 70);
        dueLoad("at the ELEVATOR", x, 0, 100, 0, 15, 3);
        x.stop(0);
        pass(x, 1);
        dueTruck("rested 6", x, 0, 70, 2, 6, 70);
        x.fetch(0, 0);
        pass(x, 1);
        dueTruck("drove: not rested", x, 0, 20, 3, 0, 120);
        x.stop(0);
        pass(x, 7);
        dueTruck("rested 7", x, 0, 20, 3, 7, 120);
    }

    private static void followsItsCombine() {
        WheatRun x = new WheatRun();
        x.field(0, 0, 200, 10, 0);
        x.combine(100, 10);
        x.cut(0, 0);
        x.truck(100);
        x.truck(0);
        x.truck(200);
        for (int i = 0; i < 3; i++) {
            x.fetch(i, 0);
        }
        pass(x, 1);
        dueTruck("goes with it", x, 0, 80, 1, 0, 20);
        dueTruck("goes to meet it", x, 1, 50, 1, 0, 50);
        dueTruck("goes behind it", x, 2, 150, 1, 0, 50);
        pass(x, 1);
        dueTruck("goes with it", x, 0, 60, 2, 0, 40);
        dueTruck("meets it", x, 1, 60, 2, 0, 60);
        dueTruck("goes behind it", x, 2, 100, 2, 0, 100);
    }

    private static void takesWhatFits() {
        WheatRun x = new WheatRun();
        x.field(0, 0, 200, 30, 0);
        x.crop(0, 80, 15);
        x.combine(0, 11);
        x.truck(0);
        x.cut(0, 0);
        x.fetch(0, 0);
        pass(x, 7);
        dueLoad("an empty TANK", x, 0, 0, -1, 0, 0);
        pass(x, 1);
        dueLoad("in the hour of the cut", x, 0, 330, 0, 15, 0);
        dueTruck("no HOURS", x, 0, 0, 0, 0, 0);
        pass(x, 1);
        dueLoad("more", x, 0, 660, 0, 15, 0);
        pass(x, 1);
        dueLoad("up to 800", x, 0, 800, 0, 15, 0);
        Check.due("TANK", x.ofCombine(0, 1), 190);
        x.crop(0, 80, 19);
        x.pass(1, 0, 76, 0);
        dueLoad("full: takes nothing, not its DAMP", x, 0, 800, 0, 15, 0);
        Check.due("TANK", x.ofCombine(0, 1), 400);
        Check.due("FIELD of the TANK", x.ofCombine(0, 2), 0);
        Check.due("bushels in TANKS and on TRUCKS", x.many(10), 1200);
    }

    private static void takesOfOneFieldAlone() {
        WheatRun x = loaded(10);
        x.field(1, 0, 200, 20, 0);
        x.crop(1, 80, 12);
        x.cut(0, 1);
        x.fetch(0, 0);
        pass(x, 1);
        dueLoad("of another FIELD", x, 0, 100, 0, 15, 0);
        Check.due("TANK", x.ofCombine(0, 1), 200);
        Check.due("of field 0 on the way", x.ofField(0, 9), 100);
        Check.due("of field 1 on the way", x.ofField(1, 9), 200);
        x.elevator(0, 1000, 0, 23, 5, 40);
        x.haul(0, 0);
        x.cut(0, -1);
        pass(x, 1);
        dueLoad("unloaded", x, 0, 0, -1, 0, 0);
        x.fetch(0, 0);
        pass(x, 1);
        dueLoad("of the other then", x, 0, 200, 1, 13, 0);
        Check.due("TANK", x.ofCombine(0, 1), 0);
    }

    private static void takesByNumbers() {
        WheatRun x = new WheatRun();
        x.field(0, 0, 200, 10, 0);
        x.crop(0, 80, 15);
        x.combine(0, 10);
        x.truck(0);
        x.truck(0);
        x.cut(0, 0);
        x.fetch(1, 0);
        x.fetch(0, 0);
        pass(x, 9);
        dueLoad("the first", x, 0, 200, 0, 15, 0);
        dueLoad("the second", x, 1, 0, -1, 0, 0);
    }

    /** With LOST 95 an acre of 20 bushels brings 1: one bushel is a LOAD like any other. */
    private static void singleBushels() {
        WheatRun x = new WheatRun();
        x.field(0, 0, 200, 20, 0);
        x.field(0, 0, 1, 10, 0);
        x.crop(0, 100, 30);
        x.pass(19, 0, 60, 20);
        x.combine(0, 1);
        x.combine(0, 1);
        x.truck(0);
        x.elevator(0, 0, 1, 0, 5, 40);
        x.crop(0, 100, 15);
        x.crop(1, 80, 19);
        x.cut(0, 0);
        x.cut(1, 1);
        x.fetch(0, 0);
        x.pass(1, 0, 60, 0);
        x.cut(0, -1);
        dueLoad("one", x, 0, 1, 0, 15, 0);
        x.fetch(0, 1);
        pass(x, 1);
        dueLoad("one, and not of another FIELD", x, 0, 1, 0, 15, 0);
        x.haul(0, 0);
        pass(x, 1);
        dueLoad("one waits", x, 0, 1, 0, 15, 1);
        x.train(0, 1);
        Check.due("on the way", x.ofField(0, 10), -1);
        Check.due("TICKETS", x.pass(1, 0, 60, 0), 1);
        Check.due("of one bushel", x.ofTicket(0, 1), 1);
        Check.due("MONEY", x.many(8), 1000);
    }

    private static void elevatorIsOpenByClock() {
        int[][] times = {{8, 18}, {0, 23}, {20, 6}, {23, 0}, {5, 6}, {1, 0}};
        for (int[] time : times) {
            for (int clock = 0; clock < 24; clock++) {
                WheatRun x = loaded(10);
                x.elevator(0, 100, time[0], time[1], 5, 40);
                int hours = (clock + 24 - 9) % 24;
                if (hours > 0) {
                    pass(x, hours);
                }
                x.haul(0, 0);
                boolean isOpen = false;
                for (int at = time[0]; at != time[1]; at = (at + 1) % 24) {
                    isOpen |= at == clock;
                }
                String what = "open from " + time[0] + " to " + time[1] + " at " + clock;
                Check.due(what, x.pass(1, 0, 60, 0), isOpen ? 1 : 0);
                Check.due(what + ": QUEUED", x.ofTruck(0, 6), isOpen ? 0 : 1);
                Check.due(what + ": ROOM", x.many(9), isOpen ? 0 : 100);
            }
        }
    }

    private static void elevatorTakesByDamp() {
        int[][] greatests = {{14, 0}, {15, 1}, {16, 1}};
        for (int[] greatest : greatests) {
            WheatRun x = loaded(10);
            x.elevator(0, 1000, 0, 23, 5, greatest[0]);
            x.haul(0, 0);
            Check.due("GREATEST " + greatest[0], x.pass(1, 0, 60, 0), greatest[1]);
            Check.due("QUEUED", x.many(12), 1 - greatest[1]);
        }
    }

    private static void elevatorTakesByRoom() {
        WheatRun x = loaded(10);
        x.elevator(0, 99, 0, 23, 5, 40);
        x.haul(0, 0);
        pass(x, 2);
        dueLoad("ROOM 99", x, 0, 100, 0, 15, 2);
        x.train(0, 1);
        pass(x, 1);
        dueLoad("ROOM 100", x, 0, 0, -1, 0, 2);
        Check.due("ROOM", x.many(9), 0);
        Check.due("TICKETS", x.many(7), 1);
    }

    private static void waitsAtTheElevator() {
        WheatRun x = loaded(10);
        x.elevator(60, 1000, 20, 21, 5, 40);
        x.haul(0, 0);
        pass(x, 2);
        dueLoad("comes there", x, 0, 100, 0, 15, 0);
        pass(x, 9);
        dueLoad("waits", x, 0, 100, 0, 15, 9);
        dueTruck("waits", x, 0, 60, 2, 0, 60);
        Check.due("open", x.pass(1, 0, 60, 0), 1);
        pass(x, 3);
        dueLoad("does not wait without LOAD", x, 0, 0, -1, 0, 9);
    }
}
