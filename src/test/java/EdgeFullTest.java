/** Full: as many as may be told, a full TANK, a full TRUCK, an ELEVATOR without ROOM, the last hour. */
final class EdgeFullTest {
    private EdgeFullTest() {
    }

    public static void main(String[] args) {
        fieldsAreEight();
        combinesAreFour();
        trucksAreFour();
        elevatorsAreThree();
        allAreOfUse();
        ripeIsFull();
        dampIsFull();
        lostIsFullByOne();
        lostIsFullByFive();
        tankIsFull();
        tankHasNoRoomForAnAcre();
        tankHasRoomForAnAcre();
        tankIsFullForOneBushel();
        tankIsFullAndNothingIsBrought();
        truckIsFull();
        truckHasRoomForAPart();
        elevatorHasNoRoom();
        elevatorHasRoomForOneOfTwo();
        elevatorIsEmptied();
        wearIsFull();
        wearIsMoreThanFull();
        allAreBroken();
        moneyIsJustEnough();
        lastHour();
        callsAreFiveHundredAndTwelve();
        Check.end();
    }

    /** "FIELDS: at most 8, numbered from 0". */
    private static void fieldsAreEight() {
        WheatRun x = new WheatRun();
        for (int i = 0; i < 8; i++) {
            Check.due("field", x.field(i % 4, 10 * i, 1 + i, 10 + i, i), i);
        }
        Check.dueThrown("a ninth", x, Check.STATE, () -> x.field(0, 0, 1, 10, 0));
        for (int i = 0; i < 8; i++) {
            Check.due("FARMER of " + i, x.ofField(i, 0), i % 4);
            Check.due("MILE of " + i, x.ofField(i, 1), 10 * i);
            Check.due("ACRES of " + i, x.ofField(i, 2), 1 + i);
        }
        Check.due("FIELDS", x.many(1), 8);
        Check.dueThrown("FIELD 8", x, Check.INDEX, () -> x.ofField(8, 0));
    }

    /** "COMBINES: at most 4, numbered from 0". */
    private static void combinesAreFour() {
        WheatRun x = new WheatRun();
        for (int i = 0; i < 4; i++) {
            Check.due("combine", x.combine(10 * i, 1 + i), i);
        }
        Check.dueThrown("a fifth", x, Check.STATE, () -> x.combine(0, 1));
        for (int i = 0; i < 4; i++) {
            Check.due("MILE of " + i, x.ofCombine(i, 0), 10 * i);
        }
        Check.due("COMBINES", x.many(3), 4);
        Check.dueThrown("COMBINE 4", x, Check.INDEX, () -> x.ofCombine(4, 0));
    }

    /** "TRUCKS: at most 4, numbered from 0". */
    private static void trucksAreFour() {
        WheatRun x = new WheatRun();
        for (int i = 0; i < 4; i++) {
            Check.due("truck", x.truck(10 * i), i);
        }
        Check.dueThrown("a fifth", x, Check.STATE, () -> x.truck(0));
        for (int i = 0; i < 4; i++) {
            Check.due("MILE of " + i, x.ofTruck(i, 0), 10 * i);
        }
        Check.due("TRUCKS", x.many(5), 4);
        Check.dueThrown("TRUCK 4", x, Check.INDEX, () -> x.ofTruck(4, 0));
    }

    /** "ELEVATORS: at most 3, numbered from 0". */
    private static void elevatorsAreThree() {
        WheatRun x = new WheatRun();
        for (int i = 0; i < 3; i++) {
            Check.due("elevator", x.elevator(10 * i, 100 * i, 0, 1, 5, 5), i);
        }
        Check.dueThrown("a fourth", x, Check.STATE, () -> x.elevator(0, 0, 0, 1, 5, 5));
        x.truck(300);
        for (int i = 0; i < 3; i++) {
            Check.due("MILE of " + i, x.haul(0, i), 300 - 10 * i);
            Check.due("ROOM of " + i, x.train(i, 1), 100 * i + 1);
        }
        Check.due("ELEVATORS", x.many(6), 3);
        Check.dueThrown("ELEVATOR 3", x, Check.INDEX, () -> x.train(3, 1));
    }

    /** The last ones told work like the first: FIELD 7, COMBINE 3, TRUCK 3, ELEVATOR 2. */
    private static void allAreOfUse() {
        WheatRun x = Lands.full();
        x.crop(7, 80, 15);
        Check.due("alone there", x.cut(3, 7), 1);
        Check.due("TRUCK 3 unloads first", x.haul(3, 2), 30);
        Check.due("a TICKET of 9 acres", x.pass(2, 0, 60, 0), 1);
        Check.due("MILE", x.ofCombine(3, 0), 70);
        Check.due("ROOM", x.train(2, 9999), 9999);
        x.fetch(3, 3);
        Lands.pass(x, 2);
        Check.due("cut at 13 and 14", x.ofField(7, 3), 6);
        Check.due("LOAD", x.ofTruck(3, 1), 120);
        Check.due("LOAD of FIELD", x.ofTruck(3, 2), 7);
        x.haul(3, 2);
        Check.due("a TICKET of 6 acres", x.pass(2, 0, 60, 0), 1);
        Check.due("TICKET of FIELD", x.ofTicket(1, 0), 7);
        Check.due("TICKET of ELEVATOR", x.ofTicket(1, 4), 2);
        Check.due("its worth", x.ofTicket(1, 6), 120 * 400 * 90 / 10000);
        Check.due("35 of 432, 15 of 648", x.owed(3, true), 151 + 97);
    }

    /** "RIPE is 2 more .. otherwise 1 more .. (100 at most)". */
    private static void ripeIsFull() {
        int[][] rows = {{98, 30, 100}, {99, 30, 100}, {99, 15, 100}, {100, 30, 100}, {100, 15, 100}, {97, 30, 99}};
        for (int[] row : rows) {
            WheatRun x = new WheatRun();
            x.field(0, 0, 1, 10, 0);
            x.crop(0, row[0], 30);
            x.pass(1, row[1], 50, 0);
            Check.due("RIPE " + row[0] + " with WARMTH " + row[1], x.ofField(0, 4), row[2]);
        }
    }

    /** "With RAIN DAMP is RAIN more (40 at most)". */
    private static void dampIsFull() {
        int[][] rows = {{39, 1, 40}, {40, 1, 40}, {20, 20, 40}, {21, 20, 40}, {40, 20, 40}, {19, 20, 39}, {38, 1, 39}};
        for (int[] row : rows) {
            WheatRun x = new WheatRun();
            x.field(0, 0, 1, 10, 0);
            x.crop(0, 80, row[0]);
            x.pass(1, 0, 50, row[1]);
            Check.due("DAMP " + row[0] + " with RAIN " + row[1], x.ofField(0, 5), row[2]);
        }
    }

    /** A FIELD with LOST 99 at CLOCK 15: 95 by RAIN, 4 in the afternoon. */
    private static WheatRun lostAllButOne() {
        WheatRun x = new WheatRun();
        x.field(0, 0, 1, 90, 0);
        Lands.pass(x, 13);
        Lands.shatter(x, 0, 95);
        Lands.passUntil(x, 11);
        x.crop(0, 100, 10);
        x.pass(4, 0, 40, 0);
        Check.due("LOST", x.ofField(0, 6), 99);
        Check.due("CLOCK", x.many(0) % 24, 15);
        return x;
    }

    /** "LOST is 1 more; .. (100 at most)": the last one, and none after it. */
    private static void lostIsFullByOne() {
        WheatRun x = lostAllButOne();
        x.pass(1, 0, 40, 0);
        Check.due("99 and 1", x.ofField(0, 6), 100);
        x.pass(1, 0, 40, 0);
        Check.due("100 and 1", x.ofField(0, 6), 100);
    }

    /** "it is 5 more (100 at most)": only the last one of the five is left. */
    private static void lostIsFullByFive() {
        WheatRun x = lostAllButOne();
        x.pass(1, 0, 40, 10);
        Check.due("99 and 5", x.ofField(0, 6), 100);
        x.pass(1, 0, 40, 10);
        Check.due("100 and 5", x.ofField(0, 6), 100);
        WheatRun y = lostAllButOne();
        Check.due("what 1 LOST is of 90 times 1 / 100", y.waiting(0, 1, 0, 40, 10), 0);
    }

    /** "a TANK (bushels in it; 0 at first, 400 at most)": it comes to be just full, then it waits. */
    private static void tankIsFull() {
        WheatRun x = Lands.ready(200, 20, 19);
        Lands.pass(x, 1);
        Check.due("TANK", x.ofCombine(0, 1), 380);
        Lands.pass(x, 1);
        Check.due("one acre more", x.ofCombine(0, 1), 400);
        Check.due("IDLE", x.ofCombine(0, 7), 0);
        Lands.pass(x, 1);
        Check.due("no more", x.ofCombine(0, 1), 400);
        Check.due("acres", x.ofCombine(0, 6), 20);
        Check.due("IDLE when full", x.ofCombine(0, 7), 1);
        Check.due("nextField when full", x.nextField(0, 48, 0, 60), -1);
    }

    /** "than the room in its TANK, divided by what one BRINGS": 50 times 95 / 100 is 47; 8 fill 376 of 400. */
    private static void tankHasNoRoomForAnAcre() {
        WheatRun x = Lands.shattered(200, 50, 5, 8);
        Lands.pass(x, 1);
        Check.due("8 times 47", x.ofCombine(0, 1), 376);
        Check.due("IDLE", x.ofCombine(0, 7), 0);
        Lands.pass(x, 1);
        Check.due("24 of room for 47", x.ofCombine(0, 1), 376);
        Check.due("IDLE", x.ofCombine(0, 7), 1);
    }

    private static void tankHasRoomForAnAcre() {
        WheatRun x = Lands.ready(200, 57, 6);
        Lands.pass(x, 1);
        Check.due("6 times 57", x.ofCombine(0, 1), 342);
        Lands.pass(x, 1);
        Check.due("58 of room for 57", x.ofCombine(0, 1), 399);
        Lands.pass(x, 1);
        Check.due("1 of room for 57", x.ofCombine(0, 1), 399);
        Check.due("acres", x.ofCombine(0, 6), 7);
    }

    /** "400 at most": not a single bushel more fits. */
    private static void tankIsFullForOneBushel() {
        WheatRun x = Lands.ready(200, 20, 20);
        Lands.pass(x, 1);
        Check.due("TANK", x.ofCombine(0, 1), 400);
        x.cut(0, -1);
        Lands.shatter(x, 0, 95);
        Lands.passUntil(x, 7);
        x.cut(0, 0);
        Lands.pass(x, 1);
        Check.due("not 401", x.ofCombine(0, 1), 400);
        Check.due("acres", x.ofCombine(0, 6), 20);
        Check.due("IDLE", x.ofCombine(0, 7), 1);
    }

    /** "nor, if an acre BRINGS any, than the room": a full TANK is no hindrance where it brings none. */
    private static void tankIsFullAndNothingIsBrought() {
        WheatRun x = Lands.ready(200, 40, 10);
        Lands.pass(x, 1);
        Check.due("TANK", x.ofCombine(0, 1), 400);
        Lands.shatter(x, 0, 100);
        Lands.passUntil(x, 7);
        int idle = x.ofCombine(0, 7);
        Lands.pass(x, 2);
        Check.due("acres", x.ofCombine(0, 6), 30);
        Check.due("TANK", x.ofCombine(0, 1), 400);
        Check.due("IDLE", x.ofCombine(0, 7), idle);
    }

    /** "a LOAD of at most 800 bushels": it comes to be just full, then it takes nothing. */
    private static void truckIsFull() {
        WheatRun x = Lands.ready(200, 40, 10);
        x.fetch(0, 0);
        Lands.pass(x, 2);
        Check.due("LOAD", x.ofTruck(0, 1), 800);
        Check.due("TANK", x.ofCombine(0, 1), 0);
        x.crop(0, 80, 19);
        x.pass(1, 0, 76, 0);
        Check.due("LOAD when full", x.ofTruck(0, 1), 800);
        Check.due("DAMP when full", x.ofTruck(0, 3), 15);
        Check.due("TANK when it is full", x.ofCombine(0, 1), 400);
        Check.due("not QUEUED", x.ofTruck(0, 6), 0);
    }

    /** "it takes from its TANK as much as fits": a part, down to a single bushel. */
    private static void truckHasRoomForAPart() {
        WheatRun x = Lands.ready(200, 47, 1);
        x.fetch(0, 0);
        Lands.pass(x, 16);
        Check.due("16 times 47, to CLOCK 23", x.ofTruck(0, 1), 752);
        Lands.pass(x, 9);
        Check.due("and 47 at CLOCK 8", x.ofTruck(0, 1), 799);
        Lands.pass(x, 1);
        Check.due("1 of 47", x.ofTruck(0, 1), 800);
        Check.due("left in the TANK", x.ofCombine(0, 1), 46);
        Lands.pass(x, 1);
        Check.due("0 of 93", x.ofTruck(0, 1), 800);
        Check.due("left in the TANK", x.ofCombine(0, 1), 93);
        Check.due("in TANKS and on TRUCKS", x.ofField(0, 9), 893);
    }

    /** "and ROOM for all of it": with one bushel less of ROOM it waits, with just so much it does not. */
    private static void elevatorHasNoRoom() {
        int[][] rows = {{0, 0}, {99, 0}, {100, 1}, {101, 1}, {9999, 1}};
        for (int[] row : rows) {
            WheatRun x = Lands.ready(200, 10, 10);
            x.elevator(0, row[0], 0, 23, 5, 40);
            x.fetch(0, 0);
            Lands.pass(x, 1);
            x.haul(0, 0);
            Check.due("ROOM " + row[0] + ": TICKETS", x.pass(1, 0, 60, 0), row[1]);
            Check.due("ROOM " + row[0] + ": left", x.many(9), row[0] - 100 * row[1]);
            Check.due("ROOM " + row[0] + ": QUEUED", x.ofTruck(0, 6), 1 - row[1]);
            Check.due("ROOM " + row[0] + ": LOAD", x.ofTruck(0, 1), 100 - 100 * row[1]);
        }
    }

    /** "TRUCKS by numbers": the first takes the ROOM, the second waits, and takes what a train leaves. */
    private static void elevatorHasRoomForOneOfTwo() {
        WheatRun x = Lands.ready(200, 10, 10);
        x.truck(0);
        x.elevator(0, 199, 0, 23, 5, 40);
        x.fetch(1, 0);
        Lands.pass(x, 1);
        x.stop(1);
        x.fetch(0, 0);
        Lands.pass(x, 1);
        x.haul(1, 0);
        x.haul(0, 0);
        Check.due("TICKETS", x.pass(1, 0, 60, 0), 1);
        Check.due("LOAD of 0", x.ofTruck(0, 1), 0);
        Check.due("LOAD of 1", x.ofTruck(1, 1), 100);
        Check.due("QUEUED 0", x.ofTruck(0, 6), 0);
        Check.due("QUEUED 1", x.ofTruck(1, 6), 1);
        Check.due("all QUEUED", x.many(12), 1);
        Check.due("ROOM then", x.train(0, 1), 100);
        Check.due("TICKETS", x.pass(1, 0, 60, 0), 1);
        Check.due("ROOM", x.many(9), 0);
    }

    /** "it has as much ROOM more, 9999 at most". */
    private static void elevatorIsEmptied() {
        int[][] rows = {{0, 1, 1}, {0, 9999, 9999}, {1, 9999, 9999}, {9998, 1, 9999}, {9999, 1, 9999}, {9999, 9999, 9999}, {5000, 4998, 9998}};
        for (int[] row : rows) {
            WheatRun x = new WheatRun();
            x.elevator(0, row[0], 0, 1, 5, 5);
            Check.due("train of " + row[1] + " at ROOM " + row[0], x.train(0, row[1]), row[2]);
            Check.due("all ROOM", x.many(9), row[2]);
        }
    }

    /** "WEAR is 1 more for each acre; with 100 or more it is BROKEN then."; no TANK ends the cut of what brings nothing. */
    private static void wearIsFull() {
        WheatRun x = Lands.shattered(99, 10, 100, 11);
        Lands.pass(x, 16);
        Check.due("WEAR 99", x.ofCombine(0, 3), 99);
        Check.due("not BROKEN", x.ofCombine(0, 4), 0);
        Check.due("waits, as nothing is left", x.ofCombine(0, 7), 7);
        WheatRun y = Lands.shattered(200, 10, 100, 10);
        Lands.pass(y, 9);
        Check.due("WEAR 90", y.ofCombine(0, 3), 90);
        Check.due("not BROKEN", y.ofCombine(0, 4), 0);
        Lands.pass(y, 1);
        Check.due("WEAR 100", y.ofCombine(0, 3), 100);
        Check.due("BROKEN", y.ofCombine(0, 4), 1);
        Lands.pass(y, 3);
        Check.due("cuts no more", y.ofCombine(0, 6), 100);
        Check.due("nor waits", y.ofCombine(0, 7), 0);
        Check.due("mended", y.mend(0), 300);
        Lands.pass(y, 1);
        Check.due("cuts again", y.ofCombine(0, 6), 110);
    }

    /** A WEAR of 99 and an hour of PACE 20: all 20 acres are cut in it, and mending costs all of 119. */
    private static void wearIsMoreThanFull() {
        WheatRun x = new WheatRun();
        x.field(0, 0, 99, 10, 0);
        x.field(0, 0, 200, 10, 0);
        x.combine(0, 20);
        x.crop(1, 100, 30);
        Lands.shatter(x, 0, 100);
        Check.due("LOST of the other", x.ofField(1, 6), 100);
        Lands.passUntil(x, 7);
        x.cut(0, 0);
        Lands.pass(x, 5);
        Check.due("WEAR", x.ofCombine(0, 3), 99);
        x.crop(1, 100, 15);
        x.cut(0, 1);
        Lands.pass(x, 3);
        Check.due("WEAR then", x.ofCombine(0, 3), 119);
        Check.due("BROKEN", x.ofCombine(0, 4), 1);
        Check.due("acres", x.ofCombine(0, 6), 119);
        Check.due("mended", x.mend(0), 357);
        Check.due("MONEY", x.many(8), 643);
    }

    /** "4 those that are BROKEN": from none to all 4, and mended one by one, as MONEY lasts. */
    private static void allAreBroken() {
        WheatRun x = Lands.shattered(200, 10, 100, 20);
        x.field(0, 0, 200, 10, 0);
        for (int i = 1; i < 4; i++) {
            x.combine(0, 20);
        }
        Lands.shatter(x, 1, 100);
        Lands.passUntil(x, 7);
        x.crop(0, 100, 15);
        x.crop(1, 100, 15);
        for (int i = 0; i < 4; i++) {
            x.cut(i, i / 2);
        }
        Lands.pass(x, 4);
        Check.due("BROKEN with WEAR 80", x.many(4), 0);
        Lands.pass(x, 1);
        Check.due("BROKEN", x.many(4), 4);
        for (int i = 0; i < 3; i++) {
            Check.due("mended", x.mend(i), 300);
            Check.due("left", x.many(4), 3 - i);
        }
        Check.dueThrown("300 of 100", x, Check.STATE, () -> x.mend(3));
        Check.due("the last one stays", x.many(4), 1);
    }

    /** "if there is not so much MONEY": 102 is too much of 100, and just enough of 102. */
    private static void moneyIsJustEnough() {
        WheatRun x = Lands.poor();
        x.field(0, 0, 1, 10, 0);
        x.crop(2, 80, 15);
        x.combine(0, 17);
        x.combine(0, 1);
        x.truck(0);
        x.elevator(0, 100, 0, 23, 5, 40);
        x.cut(0, -1);
        x.cut(1, 1);
        x.cut(2, 2);
        x.fetch(0, 2);
        Lands.pass(x, 2);
        Check.due("WEAR", x.ofCombine(1, 3), 34);
        Check.due("MONEY", x.many(8), 100);
        Check.dueThrown("102 of 100", x, Check.STATE, () -> x.mend(1));
        x.cut(1, -1);
        x.haul(0, 0);
        Check.due("a TICKET of 10 bushels", x.pass(1, 0, 60, 0), 1);
        Check.due("MONEY", x.many(8), 102);
        Check.dueThrown("120 of 102", x, Check.STATE, () -> x.mend(0));
        Check.due("102 of 102", x.mend(1), 102);
        Check.due("MONEY", x.many(8), 0);
        Check.dueThrown("3 of 0", x, Check.STATE, () -> x.mend(2));
        Check.due("nothing of 0", x.mend(1), 0);
        Check.due("MONEY", x.many(8), 0);
    }

    /** "2400 at most", "if NOW would be above 2400". */
    private static void lastHour() {
        WheatRun x = Lands.half();
        Lands.passTo(x, 2352);
        Check.dueThrown("49 hours", x, Check.ARGUMENT, () -> x.pass(49, 0, 60, 0));
        Check.due("48 hours", x.pass(48, 0, 60, 0), 0);
        Check.due("NOW", x.many(0), 2400);
        Check.dueThrown("one more", x, Check.STATE, () -> x.pass(1, 0, 60, 0));
        WheatRun y = Lands.half();
        Lands.passTo(y, 2353);
        Check.dueThrown("48 hours to 2401", y, Check.STATE, () -> y.pass(48, 0, 60, 0));
        Check.due("47 hours to 2400", y.pass(47, 0, 60, 0), 0);
        Check.due("NOW", y.many(0), 2400);
    }

    /** "An object is used for at most 512 calls": full() makes 36 of them, and the last is as good as they. */
    private static void callsAreFiveHundredAndTwelve() {
        WheatRun x = Lands.full();
        long digest = x.digest();
        for (int calls = 37; calls < 511; calls++) {
            Check.due("digest after " + calls + " calls", x.digest(), digest);
        }
        Check.due("the last call", x.pass(48, 20, 50, 0), Lands.full().pass(48, 20, 50, 0));
    }
}
