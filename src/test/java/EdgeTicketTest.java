/** Promise 14, section 4 and the end of section 3 of the terms: edges of TICKETS, shares, MONEY, METERS and MAPS. */
final class EdgeTicketTest {
    private EdgeTicketTest() {
    }

    public static void main(String[] args) {
        worthOfTheLeastPrice();
        worthOfTheGreatest();
        worthOfOneBushel();
        shareOfNoneAndOfHalf();
        shareRoundedDown();
        moneyByTens();
        discountOfTheDampest();
        meterOfTheLeastDrift();
        meterOfTheGreatestDrift();
        meterAfterMending();
        correctionWithAllSold();
        correctionWithOneBushelInATank();
        correctionWithOneBushelOnATruck();
        correctionOfTheGreatestSum();
        ticketsOfOneHourByTrucks();
        owedToFarmerAlone();
        Check.end();
    }

    /** One TICKET of one hour's cut, at a PRICE: so many acres of a YIELD, from a FIELD with a SHARE. */
    private static WheatRun sold(int farmer, int share, int acres, int bushels, int price) {
        WheatRun x = new WheatRun();
        x.field(farmer, 0, 200, bushels, share);
        x.crop(0, 80, 15);
        x.combine(0, acres);
        x.truck(0);
        x.elevator(0, 9999, 0, 23, 15, 40);
        Lands.pass(x, 7);
        x.price(price);
        x.cut(0, 0);
        Lands.sell(x, 0);
        Check.due("bushels", x.ofTicket(0, 1), acres * bushels);
        return x;
    }

    /** "bushels times PRICE times (100 less DISCOUNT), divided by 10000": at PRICE 1 it takes 100 for 1. */
    private static void worthOfTheLeastPrice() {
        int[][] rows = {{1, 10, 0}, {3, 33, 0}, {1, 90, 0}, {10, 10, 1}, {2, 50, 1}, {8, 50, 4}, {19, 21, 3}};
        for (int[] row : rows) {
            WheatRun x = sold(2, 50, row[0], row[1], 1);
            Check.due(row[0] + " times " + row[1], x.ofTicket(0, 6), row[2]);
        }
    }

    /** 800 bushels at PRICE 999: 79920000 / 10000; with a DISCOUNT of 20, 63936000 / 10000. */
    private static void worthOfTheGreatest() {
        for (int least = 5; least <= 15; least += 10) {
            WheatRun x = Lands.ready(200, 40, 10);
            x.elevator(0, 9999, 0, 23, least, 40);
            x.price(999);
            x.fetch(0, 0);
            Lands.pass(x, 2);
            x.haul(0, 0);
            Check.due("TICKETS", x.pass(1, 0, 60, 0), 1);
            Check.due("bushels", x.ofTicket(0, 1), 800);
            Check.due("worth", x.ofTicket(0, 6), least == 5 ? 6393 : 7992);
            Check.due("MONEY", x.many(8), 1160);
        }
    }

    /** A TICKET of one bushel is written, be it worth 9 or nothing; it brings no MONEY. */
    private static void worthOfOneBushel() {
        int[][] rows = {{999, 9}, {400, 4}, {100, 1}, {99, 0}, {1, 0}};
        for (int[] row : rows) {
            WheatRun x = Lands.shattered(200, 20, 95, 1);
            x.elevator(0, 9999, 0, 23, 15, 40);
            x.price(row[0]);
            Lands.sell(x, 0);
            Check.due("bushels", x.ofTicket(0, 1), 1);
            Check.due("at PRICE " + row[0], x.ofTicket(0, 6), row[1]);
            Check.due("LANDLORD", x.owed(0, true), row[1] / 2);
            Check.due("FARMER", x.owed(0, false), row[1] - row[1] / 2);
            Check.due("MONEY", x.many(8), 1000);
        }
    }

    /** "a SHARE (0 to 50 of 100)": nothing of it, and the half. */
    private static void shareOfNoneAndOfHalf() {
        int[][] rows = {{0, 0}, {1, 4}, {49, 196}, {50, 200}};
        for (int[] row : rows) {
            WheatRun x = sold(2, row[0], 10, 10, 400);
            Check.due("SHARE " + row[0] + ": LANDLORD", x.owed(2, true), row[1]);
            Check.due("SHARE " + row[0] + ": FARMER", x.owed(2, false), 400 - row[1]);
        }
    }

    /** "The LANDLORD has SHARE of 100 of that, the FARMER the rest": 1 of 100 of 99 is nothing. */
    private static void shareRoundedDown() {
        int[][] rows = {{99, 1, 0}, {100, 1, 1}, {101, 1, 1}, {1, 50, 0}, {2, 50, 1}, {3, 50, 1}, {199, 50, 99}, {199, 1, 1}};
        for (int[] row : rows) {
            WheatRun x = sold(2, row[1], 10, 10, row[0]);
            Check.due("worth", x.ofTicket(0, 6), row[0]);
            Check.due(row[1] + " of 100 of " + row[0], x.owed(2, true), row[2]);
            Check.due("the rest of " + row[0], x.owed(2, false), row[0] - row[2]);
        }
    }

    /** "MONEY .. is 2 times (bushels / 10) more". */
    private static void moneyByTens() {
        int[][] rows = {{1, 10, 2}, {1, 11, 2}, {1, 19, 2}, {1, 20, 4}, {1, 21, 4}, {3, 33, 18}, {2, 50, 20}, {1, 90, 18}};
        for (int[] row : rows) {
            Check.due("MONEY of " + row[0] * row[1], sold(2, 0, row[0], row[1], 400).many(8), 1000 + row[2]);
        }
        WheatRun x = Lands.shattered(10, 10, 5, 1);
        x.elevator(0, 9999, 0, 23, 15, 40);
        Lands.sell(x, 0);
        Check.due("bushels", x.ofTicket(0, 1), 9);
        Check.due("MONEY of 9", x.many(8), 1000);
    }

    /** The dampest that can be cut is 19, the least LEAST 5: a DISCOUNT of 28. */
    private static void discountOfTheDampest() {
        WheatRun x = Lands.ready(200, 10, 10);
        x.elevator(0, 9999, 0, 23, 5, 19);
        x.crop(0, 80, 19);
        x.fetch(0, 0);
        x.pass(1, 0, 76, 0);
        x.haul(0, 0);
        Check.due("TICKETS", x.pass(1, 0, 76, 0), 1);
        Check.due("DAMP", x.ofTicket(0, 2), 19);
        Check.due("DISCOUNT", x.ofTicket(0, 3), 28);
        Check.due("worth", x.ofTicket(0, 6), 288);
    }

    /** "DRIFT is 3 times its number, and WEAR / 20 .., less 4": -4 for number 0 without WEAR. */
    private static void meterOfTheLeastDrift() {
        int[][] rows = {{1, 10, 9}, {1, 25, 24}, {1, 24, 23}, {1, 90, 86}, {10, 40, 384}};
        for (int[] row : rows) {
            WheatRun x = Lands.ready(200, row[1], row[0]);
            Lands.pass(x, 1);
            Check.due("96 of 100 of " + row[0] * row[1], x.ofField(0, 7), row[2]);
        }
    }

    /** 9 for number 3 with a WEAR of 80 to 99. */
    private static void meterOfTheGreatestDrift() {
        WheatRun x = new WheatRun();
        x.field(0, 0, 99, 10, 0);
        x.field(0, 0, 10, 20, 0);
        for (int i = 0; i < 4; i++) {
            x.combine(0, 20);
        }
        Lands.shatter(x, 0, 100);
        Lands.passUntil(x, 7);
        x.cut(3, 0);
        Lands.pass(x, 5);
        Check.due("WEAR", x.ofCombine(3, 3), 99);
        Check.due("MAP of what brought nothing", x.ofField(0, 7), 0);
        x.crop(1, 80, 15);
        x.cut(3, 1);
        Lands.pass(x, 1);
        Check.due("109 of 100 of 200", x.ofField(1, 7), 218);
        Check.due("BROKEN then", x.ofCombine(3, 4), 1);
    }

    private static void meterAfterMending() {
        WheatRun x = Lands.ready(200, 10, 20);
        Lands.pass(x, 1);
        Check.due("96 of 100 of 200", x.ofField(0, 7), 192);
        Check.due("mended", x.mend(0), 60);
        Lands.pass(x, 1);
        Check.due("96 of 100 again", x.ofField(0, 7), 384);
    }

    /** "what the TICKETS of that FIELD say in sum, times 1000, divided by the MAP". */
    private static void correctionWithAllSold() {
        Check.due("10000 / 9", sold(2, 0, 1, 10, 400).ofField(0, 10), 1111);
        Check.due("25000 / 24", sold(2, 0, 1, 25, 400).ofField(0, 10), 1041);
        Check.due("90000 / 86", sold(2, 0, 1, 90, 400).ofField(0, 10), 1046);
        Check.due("before any", Lands.ready(1, 10, 1).ofField(0, 10), -1);
    }

    private static WheatRun soldButOne() {
        WheatRun x = sold(2, 0, 1, 20, 400);
        Check.due("20000 / 19", x.ofField(0, 10), 1052);
        Lands.shatter(x, 0, 95);
        Lands.passUntil(x, 7);
        x.cut(0, 0);
        Lands.pass(x, 1);
        x.cut(0, -1);
        return x;
    }

    /** "(NONE, if .. something of it is in a TANK or on a TRUCK)": one bushel is something. */
    private static void correctionWithOneBushelInATank() {
        WheatRun x = soldButOne();
        Check.due("TANK", x.ofCombine(0, 1), 1);
        Check.due("CORRECTION", x.ofField(0, 10), -1);
    }

    private static void correctionWithOneBushelOnATruck() {
        WheatRun x = soldButOne();
        x.fetch(0, 0);
        Lands.pass(x, 1);
        Check.due("LOAD", x.ofTruck(0, 1), 1);
        Check.due("CORRECTION", x.ofField(0, 10), -1);
        x.haul(0, 0);
        Lands.pass(x, 1);
        Check.due("21000 / 19", x.ofField(0, 10), 1105);
    }

    /** 200 acres of 90 bushels, all sold: 18000 times 1000 is divided by what METERS told of it. */
    private static void correctionOfTheGreatestSum() {
        WheatRun x = Lands.ready(200, 90, 4);
        x.elevator(0, 9999, 0, 23, 15, 40);
        for (int hour = 0; hour < 400 && x.ofField(0, 8) < 18000; hour++) {
            if (x.ofCombine(0, 4) == 1) {
                x.mend(0);
            }
            if (x.ofTruck(0, 1) > 0) {
                x.haul(0, 0);
                x.train(0, 9999);
            } else {
                x.fetch(0, 0);
            }
            Lands.pass(x, 1);
        }
        Check.due("CUT", x.ofField(0, 3), 200);
        Check.due("bushels of TICKETS", x.ofField(0, 8), 18000);
        Check.due("CORRECTION", x.ofField(0, 10), 18000000 / x.ofField(0, 7));
        Check.due("owed", x.owed(0, false), 72000);
    }

    /** "TRUCKS by numbers", "in the order written": two TICKETS of an hour stand as their TRUCKS do. */
    private static void ticketsOfOneHourByTrucks() {
        WheatRun x = Lands.ready(200, 10, 10);
        x.truck(0);
        x.combine(0, 5);
        x.cut(1, 0);
        x.fetch(0, 1);
        x.fetch(1, 0);
        x.elevator(0, 9999, 0, 23, 15, 40);
        Lands.pass(x, 1);
        x.haul(1, 0);
        x.haul(0, 0);
        Check.due("TICKETS", x.pass(1, 0, 60, 0), 2);
        Check.due("the first", x.ofTicket(0, 1), 50);
        Check.due("the last", x.ofTicket(1, 1), 100);
        Check.due("hour of the first", x.ofTicket(0, 5), 9);
        Check.due("hour of the last", x.ofTicket(1, 5), 9);
        Check.dueThrown("no third", x, Check.INDEX, () -> x.ofTicket(2, 0));
    }

    /** "all TICKETS of his FIELDS": those of the FARMERS 0 and 3 too, and of no other. */
    private static void owedToFarmerAlone() {
        for (int farmer = 0; farmer < 4; farmer++) {
            WheatRun x = sold(farmer, 50, 10, 10, 400);
            for (int other = 0; other < 4; other++) {
                Check.due("FARMER " + other, x.owed(other, false), other == farmer ? 200 : 0);
                Check.due("LANDLORDS of " + other, x.owed(other, true), other == farmer ? 200 : 0);
            }
        }
    }
}
