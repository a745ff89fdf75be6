/** Promise 14, sections 3 and 4: TICKETS, what they are worth and to whom, METERS and MAPS. */
final class TicketTest {
    private TicketTest() {
    }

    public static void main(String[] args) {
        ticketSaysAll();
        worthIsRoundedDown();
        priceIsThatOfTheHour();
        sharesAreRoundedByTicket();
        moneyGoesByTens();
        owedGoesByFarmer();
        metersByNumber();
        metersByWear();
        metersByHour();
        correction();
        correctionWaitsForAll();
        Check.end();
    }

    private static void pass(WheatRun x, int hours) {
        x.pass(hours, 0, 60, 0);
    }

    /** One field, combine and truck at mile 0, at CLOCK 7: one hour more and the truck has the first cut. */
    private static WheatRun with(int bushels, int share, int pace) {
        WheatRun x = new WheatRun();
        x.field(2, 0, 200, bushels, share);
        x.crop(0, 80, 15);
        x.combine(0, pace);
        x.truck(0);
        pass(x, 7);
        x.cut(0, 0);
        x.fetch(0, 0);
        return x;
    }

    /** Loads what one hour's cut brings and sells it at an elevator at mile 0. */
    private static void sell(WheatRun x, int elevator) {
        x.fetch(0, 0);
        pass(x, 1);
        x.cut(0, -1);
        x.haul(0, elevator);
        pass(x, 1);
        x.cut(0, 0);
    }

    private static void dueTicket(WheatRun x, int ticket, int... want) {
        for (int what = 0; what <= 6; what++) {
            Check.due("ofTicket(" + ticket + ", " + what + ")", x.ofTicket(ticket, what), want[what]);
        }
    }

    private static void ticketSaysAll() {
        WheatRun x = with(70, 33, 1);
        x.field(1, 0, 10, 80, 10);
        x.crop(1, 80, 15);
        x.elevator(50, 500, 0, 23, 5, 40);
        x.elevator(0, 500, 0, 23, 12, 40);
        x.price(333);
        sell(x, 1);
        dueTicket(x, 0, 0, 70, 15, 6, 1, 9, 219);
        Check.due("LANDLORD", x.owed(2, true), 72);
        Check.due("FARMER", x.owed(2, false), 147);
        Check.due("bushels of TICKETS", x.ofField(0, 8), 70);
        Check.due("ROOM", x.many(9), 930);
        x.cut(0, 1);
        x.fetch(0, 0);
        pass(x, 1);
        x.haul(0, 0);
        Check.due("second", x.pass(2, 0, 60, 0), 1);
        dueTicket(x, 1, 1, 80, 15, 20, 0, 12, 213);
        dueTicket(x, 0, 0, 70, 15, 6, 1, 9, 219);
        Check.due("LANDLORD of 1", x.owed(1, true), 21);
        Check.due("FARMER 1", x.owed(1, false), 192);
        Check.due("TICKETS", x.many(7), 2);
    }

    private static void worthIsRoundedDown() {
        WheatRun x = with(10, 0, 1);
        x.elevator(0, 500, 0, 23, 15, 40);
        x.price(19);
        sell(x, 0);
        Check.due("190 / 100", x.ofTicket(0, 6), 1);
        x.price(9);
        sell(x, 0);
        Check.due("90 / 100", x.ofTicket(1, 6), 0);
        WheatRun z = with(40, 50, 10);
        z.elevator(0, 9999, 0, 23, 13, 40);
        z.price(997);
        pass(z, 2);
        z.haul(0, 0);
        pass(z, 1);
        Check.due("76569600 / 10000", z.ofTicket(0, 6), 7656);
        WheatRun y = with(40, 50, 10);
        y.elevator(0, 9999, 0, 23, 15, 40);
        y.price(999);
        pass(y, 2);
        y.haul(0, 0);
        pass(y, 1);
        Check.due("the greatest", y.ofTicket(0, 6), 7992);
        Check.due("its half", y.owed(2, true), 3996);
    }

    private static void priceIsThatOfTheHour() {
        WheatRun x = with(10, 0, 10);
        x.elevator(0, 500, 0, 23, 15, 40);
        x.price(100);
        x.fetch(0, 0);
        pass(x, 1);
        x.price(200);
        x.haul(0, 0);
        pass(x, 1);
        x.price(300);
        Check.due("worth as it was written", x.ofTicket(0, 6), 200);
        Check.due("owed as it was written", x.owed(2, false), 200);
    }

    private static void sharesAreRoundedByTicket() {
        WheatRun x = with(10, 50, 1);
        x.elevator(0, 500, 0, 23, 15, 40);
        x.price(130);
        for (int i = 1; i <= 3; i++) {
            sell(x, 0);
            Check.due("LANDLORD: 6 of 13 each time", x.owed(2, true), 6 * i);
            Check.due("FARMER: 7 of 13 each time", x.owed(2, false), 7 * i);
        }
    }

    private static void moneyGoesByTens() {
        WheatRun x = with(79, 20, 1);
        x.elevator(0, 500, 0, 23, 15, 40);
        sell(x, 0);
        Check.due("MONEY", x.many(8), 1014);
        sell(x, 0);
        Check.due("MONEY", x.many(8), 1028);
    }

    private static void owedGoesByFarmer() {
        WheatRun x = with(10, 10, 10);
        x.field(2, 0, 100, 10, 40);
        x.field(3, 0, 100, 10, 0);
        x.crop(1, 80, 15);
        x.crop(2, 80, 15);
        x.elevator(0, 500, 0, 23, 15, 40);
        sell(x, 0);
        x.cut(0, 1);
        sell(x, 0);
        x.cut(0, 2);
        sell(x, 0);
        int[][] want = {{0, 0}, {0, 0}, {360 + 240, 40 + 160}, {400, 0}};
        for (int farmer = 0; farmer < 4; farmer++) {
            Check.due("FARMER " + farmer, x.owed(farmer, false), want[farmer][0]);
            Check.due("LANDLORDS of " + farmer, x.owed(farmer, true), want[farmer][1]);
        }
    }

    private static void metersByNumber() {
        int[] maps = {96, 99, 102, 105};
        for (int number = 0; number < 4; number++) {
            WheatRun x = new WheatRun();
            x.field(0, 0, 200, 10, 0);
            x.crop(0, 80, 15);
            for (int i = 0; i < 4; i++) {
                x.combine(0, 10);
            }
            pass(x, 7);
            x.cut(number, 0);
            pass(x, 1);
            Check.due("MAP by " + number, x.ofField(0, 7), maps[number]);
        }
    }

    private static void metersByWear() {
        WheatRun x = with(10, 0, 19);
        int[] maps = {182, 182 + 182, 182 + 182 + 184};
        for (int hour = 0; hour < 3; hour++) {
            pass(x, 1);
            Check.due("MAP after " + hour, x.ofField(0, 7), maps[hour]);
        }
        WheatRun y = with(10, 0, 20);
        int[] more = {192, 194, 196, 198, 200};
        int sum = 0;
        for (int hour = 0; hour < 5; hour++) {
            pass(y, 1);
            sum += more[hour];
            Check.due("MAP after " + hour, y.ofField(0, 7), sum);
        }
    }

    private static void metersByHour() {
        WheatRun x = with(33, 0, 1);
        pass(x, 3);
        Check.due("31 of 31.68 each hour", x.ofField(0, 7), 93);
        x.combine(0, 1);
        x.cut(1, 0);
        pass(x, 1);
        Check.due("31, and 32 of 32.67", x.ofField(0, 7), 156);
    }

    private static void correction() {
        WheatRun x = with(33, 0, 1);
        x.elevator(0, 500, 0, 23, 5, 40);
        Check.due("without MAP", x.ofField(0, 10), -1);
        sell(x, 0);
        Check.due("33000 / 31", x.ofField(0, 10), 1064);
        sell(x, 0);
        Check.due("66000 / 62", x.ofField(0, 10), 1064);
        WheatRun y = new WheatRun();
        y.field(0, 0, 200, 50, 0);
        y.crop(0, 80, 15);
        y.combine(9, 1);
        y.combine(9, 1);
        y.combine(9, 1);
        y.combine(0, 2);
        y.truck(0);
        y.elevator(0, 500, 0, 23, 5, 40);
        pass(y, 7);
        y.cut(3, 0);
        y.fetch(0, 3);
        pass(y, 1);
        y.cut(3, -1);
        y.haul(0, 0);
        pass(y, 1);
        Check.due("100000 / 105", y.ofField(0, 10), 952);
    }

    private static void correctionWaitsForAll() {
        WheatRun x = with(10, 0, 10);
        x.field(0, 0, 10, 10, 0);
        x.crop(1, 80, 15);
        x.elevator(0, 500, 0, 23, 5, 40);
        sell(x, 0);
        Check.due("all sold", x.ofField(0, 10), 1041);
        pass(x, 1);
        Check.due("in a TANK", x.ofField(0, 9), 100);
        Check.due("some in a TANK", x.ofField(0, 10), -1);
        x.fetch(0, 0);
        x.cut(0, -1);
        pass(x, 1);
        Check.due("on a TRUCK", x.ofField(0, 9), 100);
        Check.due("some on a TRUCK", x.ofField(0, 10), -1);
        x.haul(0, 0);
        pass(x, 1);
        Check.due("all sold again", x.ofField(0, 10), 1041);
        x.cut(0, 1);
        pass(x, 1);
        Check.due("another FIELD's in a TANK", x.ofField(0, 10), 1041);
        Check.due("that other FIELD", x.ofField(1, 10), -1);
        x.fetch(0, 0);
        pass(x, 1);
        Check.due("another FIELD's on a TRUCK", x.ofField(0, 10), 1041);
        Check.due("that other FIELD", x.ofField(1, 10), -1);
    }
}
