/** Promises 9 to 11 and 14, section 3 of the terms: each edge that it names for a TRUCK and an ELEVATOR. */
final class EdgeTruckTest {
    private EdgeTruckTest() {
    }

    public static void main(String[] args) {
        truckAtFirst();
        truckGoes();
        truckGoesWithItsCombine();
        truckIsThereAlready();
        hoursOfDriving();
        hoursWithoutPlace();
        hoursOfTenWithoutPlace();
        restOfEight();
        restIsLostByDriving();
        restIsKeptByStanding();
        restsAheadOfTaking();
        restsAheadOfUnloading();
        takesOfAnEmptyTank();
        takesOfItsFieldAlone();
        takesTheGreatestDamp();
        elevatorByGreatest();
        elevatorByLeast();
        elevatorByRoomOfOne();
        elevatorByAllThree();
        truckStaysSent();
        Check.end();
    }

    private static void dueTruck(String what, WheatRun x, int mile, int hours, int rest, int driven) {
        Check.due(what + ": MILE", x.ofTruck(0, 0), mile);
        Check.due(what + ": HOURS", x.ofTruck(0, 4), hours);
        Check.due(what + ": REST", x.ofTruck(0, 5), rest);
        Check.due(what + ": driven", x.ofTruck(0, 7), driven);
    }

    /** A TRUCK at MILE 0 with 100 bushels of FIELD 0 and no place; CLOCK 8. An hour's cut brings 100 more. */
    private static WheatRun loaded(int damp) {
        WheatRun x = Lands.ready(200, 10, 10);
        x.crop(0, 80, damp);
        x.fetch(0, 0);
        x.pass(1, 0, 4 * damp, 0);
        Check.due("LOAD", x.ofTruck(0, 1), 100);
        Check.due("DAMP", x.ofTruck(0, 3), damp);
        x.cut(0, -1);
        x.stop(0);
        return x;
    }

    /** "with HOURS .. (0), a LOAD .. (0 at first), .. REST and QUEUED hours (0), and a place to go: .. none (at first)". */
    private static void truckAtFirst() {
        WheatRun x = new WheatRun();
        x.truck(300);
        x.truck(0);
        int[] want = {300, 0, -1, 0, 0, 0, 0, 0};
        for (int what = 0; what <= 7; what++) {
            Check.due("ofTruck(0, " + what + ")", x.ofTruck(0, what), want[what]);
            Check.due("ofTruck(1, " + what + ")", x.ofTruck(1, what), what == 0 ? 0 : want[what]);
        }
    }

    /** "In another MILE: it goes 50 MILES towards it (or comes there)"; "how many MILES away that is". */
    private static void truckGoes() {
        int[][] rows = {{1, 1}, {49, 49}, {50, 50}, {51, 50}, {99, 50}, {100, 50}, {101, 50}, {300, 50}};
        for (int[] row : rows) {
            for (int end = 0; end <= 300; end += 300) {
                WheatRun x = new WheatRun();
                int begin = Math.abs(end - row[0]);
                int hours = (row[0] + 49) / 50;
                x.truck(begin);
                x.elevator(end, 0, 0, 1, 5, 5);
                Check.due("MILES away", x.haul(0, 0), row[0]);
                Lands.pass(x, 1);
                dueTruck(row[0] + " to " + end + ", an hour", x, begin + (end > begin ? row[1] : -row[1]), 1, 0, row[1]);
                Lands.pass(x, 7);
                dueTruck(row[0] + " to " + end, x, end, hours, 0, row[0]);
                Check.due("MILES away then", x.haul(0, 0), 0);
            }
        }
    }

    /** A COMBINE at MILE 31, a FIELD to which it is sent, and a TRUCK that is to fetch from it; an hour. */
    private static WheatRun followed(int field, int truck) {
        WheatRun x = new WheatRun();
        x.field(0, field, 10, 10, 0);
        x.combine(31, 1);
        x.truck(truck);
        x.cut(0, 0);
        Check.due("MILES away", x.fetch(0, 0), 31 - truck);
        Lands.pass(x, 1);
        Check.due("the COMBINE", x.ofCombine(0, 0), field);
        return x;
    }

    /** "where the COMBINE is by then": it went in this hour ahead of the TRUCK. */
    private static void truckGoesWithItsCombine() {
        dueTruck("50 away by then: comes there", followed(50, 0), 50, 1, 0, 50);
        dueTruck("51 away by then", followed(51, 0), 50, 1, 0, 50);
        dueTruck("11 away by then", followed(11, 0), 11, 1, 0, 11);
        dueTruck("with it at first", followed(51, 31), 51, 1, 0, 20);
        dueTruck("with it, that stays", followed(31, 31), 31, 0, 0, 0);
    }

    /** Where it is there already it does not drive: no HOURS, and REST stays. */
    private static void truckIsThereAlready() {
        WheatRun x = new WheatRun();
        x.truck(70);
        x.combine(70, 1);
        x.elevator(70, 0, 0, 1, 5, 5);
        Check.due("fetch", x.fetch(0, 0), 0);
        Lands.pass(x, 5);
        dueTruck("at the COMBINE", x, 70, 0, 0, 0);
        Check.due("haul", x.haul(0, 0), 0);
        Lands.pass(x, 5);
        dueTruck("at the ELEVATOR", x, 70, 0, 0, 0);
    }

    /** A TRUCK at MILE 100 that drove so many hours, to and fro; its place is then an ELEVATOR at MILE 0. */
    private static WheatRun driven(int hours) {
        WheatRun x = new WheatRun();
        x.truck(100);
        x.elevator(0, 0, 0, 1, 5, 5);
        x.elevator(300, 0, 0, 1, 5, 5);
        for (int hour = 0; hour < hours; hour++) {
            x.haul(0, hour % 2);
            Lands.pass(x, 1);
        }
        x.haul(0, 0);
        Check.due("HOURS", x.ofTruck(0, 4), hours);
        return x;
    }

    /** "With HOURS of 10 or more .. it rests": with 9 it still drives. */
    private static void hoursOfDriving() {
        WheatRun x = driven(9);
        dueTruck("9 HOURS", x, 50, 9, 0, 450);
        Lands.pass(x, 1);
        dueTruck("drives with 9", x, 0, 10, 0, 500);
        WheatRun y = driven(10);
        dueTruck("10 HOURS", y, 100, 10, 0, 500);
        Lands.pass(y, 1);
        dueTruck("rests with 10", y, 100, 10, 1, 500);
    }

    /** "or without a place and with HOURS above 0": with 1 it rests, with 0 there is nothing to rest from. */
    private static void hoursWithoutPlace() {
        WheatRun x = driven(1);
        Check.due("HOURS", x.stop(0), 1);
        Lands.pass(x, 1);
        dueTruck("1 HOUR", x, 50, 1, 1, 50);
        WheatRun y = driven(0);
        Check.due("HOURS", y.stop(0), 0);
        Lands.pass(y, 1);
        dueTruck("0 HOURS", y, 100, 0, 0, 0);
    }

    private static void hoursOfTenWithoutPlace() {
        WheatRun x = driven(10);
        Check.due("HOURS", x.stop(0), 10);
        Lands.pass(x, 7);
        dueTruck("7 of REST", x, 100, 10, 7, 500);
        Lands.pass(x, 1);
        dueTruck("8 of REST", x, 100, 0, 0, 500);
        Check.due("HOURS then", x.stop(0), 0);
    }

    /** "with 8 of REST both are 0": with 7 neither is; in the hour after it drives, or has no HOURS to rest. */
    private static void restOfEight() {
        WheatRun x = driven(10);
        Lands.pass(x, 7);
        dueTruck("7 of REST", x, 100, 10, 7, 500);
        Lands.pass(x, 1);
        dueTruck("8 of REST", x, 100, 0, 0, 500);
        Lands.pass(x, 1);
        dueTruck("drives", x, 50, 1, 0, 550);
        WheatRun y = driven(2);
        y.stop(0);
        Lands.pass(y, 9);
        dueTruck("9 hours without a place", y, 100, 0, 0, 100);
    }

    /** "HOURS are 1 more, REST is 0": 7 of REST are for nothing. */
    private static void restIsLostByDriving() {
        WheatRun x = driven(3);
        x.stop(0);
        Lands.pass(x, 7);
        dueTruck("7 of REST", x, 50, 3, 7, 150);
        x.haul(0, 0);
        Lands.pass(x, 1);
        dueTruck("drove", x, 0, 4, 0, 200);
        x.stop(0);
        Lands.pass(x, 7);
        dueTruck("7 of REST again", x, 0, 4, 7, 200);
        Lands.pass(x, 1);
        dueTruck("8 of REST", x, 0, 0, 0, 200);
    }

    /** With a place where it is already it neither rests nor drives: REST is as it was. */
    private static void restIsKeptByStanding() {
        WheatRun x = driven(2);
        x.combine(100, 1);
        x.stop(0);
        Lands.pass(x, 7);
        x.fetch(0, 0);
        Lands.pass(x, 5);
        dueTruck("stands", x, 100, 2, 7, 100);
        x.stop(0);
        Lands.pass(x, 1);
        dueTruck("the eighth", x, 100, 0, 0, 100);
    }

    /** "In an hour a TRUCK does the first of these": with HOURS of 10 it rests where there is something to take. */
    private static void restsAheadOfTaking() {
        WheatRun x = Lands.ready(200, 10, 10);
        x.elevator(250, 0, 0, 1, 5, 5);
        x.haul(0, 0);
        Lands.pass(x, 5);
        x.fetch(0, 0);
        Lands.pass(x, 5);
        dueTruck("there with 10", x, 0, 10, 0, 500);
        Lands.pass(x, 8);
        Check.due("LOAD of 8 hours of REST", x.ofTruck(0, 1), 0);
        Lands.pass(x, 1);
        Check.due("LOAD then", x.ofTruck(0, 1), 400);
    }

    private static void restsAheadOfUnloading() {
        WheatRun x = loaded(15);
        x.elevator(250, 0, 0, 1, 5, 5);
        x.elevator(0, 1000, 0, 23, 5, 40);
        x.haul(0, 0);
        Lands.pass(x, 5);
        x.haul(0, 1);
        Lands.pass(x, 5);
        dueTruck("there with 10", x, 0, 10, 0, 500);
        Check.due("TICKETS of 8 hours of REST", x.pass(8, 0, 60, 0), 0);
        Check.due("not QUEUED", x.ofTruck(0, 6), 0);
        Check.due("TICKETS then", x.pass(1, 0, 60, 0), 1);
    }

    /** "it takes from its TANK as much as fits": nothing of nothing, with a LOAD or without. */
    private static void takesOfAnEmptyTank() {
        WheatRun x = loaded(15);
        x.fetch(0, 0);
        Lands.pass(x, 2);
        int[] want = {0, 100, 0, 15, 0, 0, 0, 0};
        for (int what = 0; what <= 7; what++) {
            Check.due("ofTruck(0, " + what + ")", x.ofTruck(0, what), want[what]);
        }
    }

    /** "if its LOAD is 0, or of the FIELD of what is in the TANK": one bushel of another FIELD is enough. */
    private static void takesOfItsFieldAlone() {
        WheatRun x = Lands.shattered(10, 20, 95, 1);
        x.field(0, 0, 10, 10, 0);
        x.crop(1, 80, 15);
        x.combine(0, 1);
        x.cut(1, 1);
        x.fetch(0, 0);
        Lands.pass(x, 1);
        Check.due("one bushel of 0", x.ofTruck(0, 1), 1);
        x.fetch(0, 1);
        Lands.pass(x, 2);
        Check.due("LOAD", x.ofTruck(0, 1), 1);
        Check.due("left in the TANK", x.ofCombine(1, 1), 30);
        x.fetch(0, 0);
        Lands.pass(x, 1);
        Check.due("more of 0", x.ofTruck(0, 1), 4);
    }

    /** "its DAMP is the greatest one of what it took since its LOAD was 0". */
    private static void takesTheGreatestDamp() {
        WheatRun x = loaded(15);
        x.elevator(0, 1000, 0, 23, 5, 40);
        int[][] rows = {{14, 15}, {15, 15}, {16, 16}, {15, 16}};
        for (int[] row : rows) {
            x.crop(0, 80, row[0]);
            x.cut(0, 0);
            x.fetch(0, 0);
            x.pass(1, 0, 4 * row[0], 0);
            Check.due("DAMP with " + row[0] + " more", x.ofTruck(0, 3), row[1]);
        }
        x.cut(0, -1);
        x.haul(0, 0);
        Check.due("TICKETS", x.pass(1, 0, 60, 0), 1);
        Check.due("DAMP of it", x.ofTicket(0, 2), 16);
        x.crop(0, 80, 12);
        x.cut(0, 0);
        x.fetch(0, 0);
        x.pass(1, 0, 48, 0);
        Check.due("DAMP since the LOAD was 0", x.ofTruck(0, 3), 12);
    }

    /** "has a GREATEST no less than the DAMP". */
    private static void elevatorByGreatest() {
        int[][] rows = {{15, 14, 0}, {15, 15, 1}, {15, 16, 1}, {19, 18, 0}, {19, 19, 1}, {19, 40, 1}, {5, 5, 1}};
        for (int[] row : rows) {
            WheatRun x = loaded(row[0]);
            x.elevator(0, 1000, 0, 23, 5, row[1]);
            x.haul(0, 0);
            String what = "DAMP " + row[0] + ", GREATEST " + row[1];
            Check.due(what, x.pass(1, 0, 60, 0), row[2]);
            Check.due(what + ": QUEUED", x.many(12), 1 - row[2]);
        }
    }

    /** "the DISCOUNT (2 for each that DAMP is above the LEAST)": none at the LEAST, nor below it. */
    private static void elevatorByLeast() {
        int[][] rows = {{15, 40, 0}, {15, 16, 0}, {15, 15, 0}, {15, 14, 2}, {15, 13, 4}, {15, 5, 20}, {19, 5, 28}, {5, 5, 0}, {6, 5, 2}};
        for (int[] row : rows) {
            WheatRun x = loaded(row[0]);
            x.elevator(0, 1000, 0, 23, row[1], 40);
            x.haul(0, 0);
            String what = "DAMP " + row[0] + ", LEAST " + row[1];
            Check.due(what + ": TICKETS", x.pass(1, 0, 60, 0), 1);
            Check.due(what + ": DISCOUNT", x.ofTicket(0, 3), row[2]);
            Check.due(what + ": worth", x.ofTicket(0, 6), 4 * (100 - row[2]));
        }
    }

    /** "ROOM for all of it": one bushel of ROOM is none for two. */
    private static void elevatorByRoomOfOne() {
        int[][] rows = {{1, 0}, {2, 1}};
        for (int[] row : rows) {
            WheatRun x = Lands.shattered(10, 20, 95, 2);
            x.elevator(0, row[0], 0, 23, 5, 40);
            x.fetch(0, 0);
            Lands.pass(x, 1);
            Check.due("LOAD", x.ofTruck(0, 1), 2);
            x.haul(0, 0);
            Check.due("ROOM " + row[0], x.pass(1, 0, 60, 0), row[1]);
        }
    }

    /** "Otherwise it waits (QUEUED is 1 more)": 1 an hour, whether one thing is wrong or all three are. */
    private static void elevatorByAllThree() {
        int[][] rows = {{99, 0, 14}, {1000, 0, 14}, {99, 9, 14}, {99, 0, 15}, {1000, 0, 15}, {1000, 9, 14}, {99, 9, 15}, {1000, 9, 15}};
        for (int i = 0; i < rows.length; i++) {
            WheatRun x = loaded(15);
            x.elevator(0, rows[i][0], rows[i][1] == 0 ? 10 : 0, rows[i][1] == 0 ? 9 : 23, 5, rows[i][2]);
            x.haul(0, 0);
            Check.due("row " + i + ": CLOCK", x.many(0), 8);
            int due = i == rows.length - 1 ? 1 : 0;
            Check.due("row " + i + ": TICKETS", x.pass(1, 0, 60, 0), due);
            Check.due("row " + i + ": QUEUED", x.ofTruck(0, 6), 1 - due);
        }
    }

    /** What it did there leaves its place: it stays sent to the ELEVATOR, and rests only when it is stopped. */
    private static void truckStaysSent() {
        WheatRun x = loaded(15);
        x.elevator(30, 1000, 0, 23, 5, 40);
        x.haul(0, 0);
        Lands.pass(x, 2);
        Check.due("TICKETS", x.many(7), 1);
        Lands.pass(x, 5);
        dueTruck("stays sent", x, 30, 1, 0, 30);
        Check.due("HOURS", x.stop(0), 1);
        Lands.pass(x, 1);
        dueTruck("stopped", x, 30, 1, 1, 30);
    }
}
