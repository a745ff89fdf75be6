/** Promises 8 to 14: what is done, call by call; what an hour does is in the tests named Hour. */
final class DoneTest {
    private DoneTest() {
    }

    public static void main(String[] args) {
        promise08Cut();
        promise08CutThrows();
        promise09Fetch();
        promise10Haul();
        promise09And10Replace();
        promise11Stop();
        promise12Mend();
        promise12MendThrice();
        promise12MendForAllMoney();
        promise13Train();
        promise14PassThrows();
        promise14PassUpToTheLastHour();
        promise14PassCountsTickets();
        Check.end();
    }

    private static void promise08Cut() {
        WheatRun x = new WheatRun();
        x.field(0, 10, 10, 10, 0);
        x.field(0, 20, 10, 10, 0);
        x.combine(0, 1);
        x.combine(0, 1);
        x.combine(0, 1);
        Check.due("cut NONE by one that has none", x.cut(0, -1), 0);
        Check.due("first to 1", x.cut(2, 1), 1);
        Check.due("second to 1", x.cut(0, 1), 2);
        Check.due("the same again", x.cut(0, 1), 2);
        Check.due("one to 0", x.cut(1, 0), 1);
        Check.due("from 1 to 0", x.cut(0, 0), 2);
        Check.due("sent to 1", x.ofField(1, 11), 1);
        Check.due("sent to 0", x.ofField(0, 11), 2);
        Check.due("FIELD of 2", x.ofCombine(2, 5), 1);
        Check.due("cut NONE", x.cut(0, -1), 0);
        Check.due("FIELD of 0", x.ofCombine(0, 5), -1);
        Check.due("sent to 0 then", x.ofField(0, 11), 1);
        x.pass(1, 0, 0, 0);
        Check.due("sent nowhere, goes nowhere", x.ofCombine(0, 0), 0);
        Check.due("sent to 0, comes there", x.ofCombine(1, 0), 10);
        Check.due("sent to 1, comes there", x.ofCombine(2, 0), 20);
    }

    private static void promise08CutThrows() {
        WheatRun x = new WheatRun();
        x.field(0, 10, 10, 10, 0);
        x.combine(0, 1);
        x.cut(0, 0);
        Check.dueThrown("combine -1", x, Check.INDEX, () -> x.cut(-1, 0));
        Check.dueThrown("combine 1", x, Check.INDEX, () -> x.cut(1, 0));
        Check.dueThrown("combine 1, NONE", x, Check.INDEX, () -> x.cut(1, -1));
        Check.dueThrown("field -2", x, Check.INDEX, () -> x.cut(0, -2));
        Check.dueThrown("field 1", x, Check.INDEX, () -> x.cut(0, 1));
        Check.due("FIELD, as it was", x.ofCombine(0, 5), 0);
    }

    private static void promise09Fetch() {
        WheatRun x = new WheatRun();
        x.combine(100, 1);
        x.combine(300, 1);
        x.truck(130);
        x.truck(0);
        Check.due("down", x.fetch(0, 0), 30);
        Check.due("up", x.fetch(1, 1), 300);
        x.pass(1, 0, 0, 0);
        Check.due("came there", x.ofTruck(0, 0), 100);
        Check.due("goes there", x.ofTruck(1, 0), 50);
        Check.due("there", x.fetch(0, 0), 0);
        Check.due("on the way", x.fetch(1, 1), 250);
        Check.dueThrown("truck -1", x, Check.INDEX, () -> x.fetch(-1, 0));
        Check.dueThrown("truck 2", x, Check.INDEX, () -> x.fetch(2, 0));
        Check.dueThrown("combine -1", x, Check.INDEX, () -> x.fetch(0, -1));
        Check.dueThrown("combine 2", x, Check.INDEX, () -> x.fetch(0, 2));
        x.pass(1, 0, 0, 0);
        Check.due("stays there", x.ofTruck(0, 0), 100);
    }

    private static void promise10Haul() {
        WheatRun x = new WheatRun();
        x.elevator(100, 0, 0, 1, 5, 5);
        x.elevator(300, 0, 0, 1, 5, 5);
        x.truck(130);
        x.truck(0);
        Check.due("down", x.haul(0, 0), 30);
        Check.due("up", x.haul(1, 1), 300);
        x.pass(1, 0, 0, 0);
        Check.due("came there", x.ofTruck(0, 0), 100);
        Check.due("goes there", x.ofTruck(1, 0), 50);
        Check.due("there", x.haul(0, 0), 0);
        Check.due("on the way", x.haul(1, 1), 250);
        Check.dueThrown("truck -1", x, Check.INDEX, () -> x.haul(-1, 0));
        Check.dueThrown("truck 2", x, Check.INDEX, () -> x.haul(2, 0));
        Check.dueThrown("elevator -1", x, Check.INDEX, () -> x.haul(0, -1));
        Check.dueThrown("elevator 2", x, Check.INDEX, () -> x.haul(0, 2));
        x.pass(1, 0, 0, 0);
        Check.due("stays there", x.ofTruck(0, 0), 100);
    }

    private static void promise09And10Replace() {
        WheatRun x = new WheatRun();
        x.combine(0, 1);
        x.elevator(200, 0, 0, 1, 5, 5);
        x.truck(100);
        x.fetch(0, 0);
        x.haul(0, 0);
        x.pass(1, 0, 0, 0);
        Check.due("to the elevator", x.ofTruck(0, 0), 150);
        x.fetch(0, 0);
        x.pass(1, 0, 0, 0);
        Check.due("to the combine", x.ofTruck(0, 0), 100);
    }

    private static void promise11Stop() {
        WheatRun x = new WheatRun();
        x.combine(0, 1);
        x.elevator(200, 0, 0, 1, 5, 5);
        x.truck(300);
        x.truck(0);
        x.fetch(0, 0);
        x.haul(1, 0);
        x.pass(3, 0, 0, 0);
        Check.due("HOURS", x.stop(0), 3);
        Check.due("HOURS of the other", x.stop(1), 3);
        x.pass(1, 0, 0, 0);
        Check.due("stopped on the way to a combine", x.ofTruck(0, 0), 150);
        Check.due("stopped on the way to an elevator", x.ofTruck(1, 0), 150);
        Check.due("rests", x.ofTruck(0, 5), 1);
        Check.due("stopped again", x.stop(0), 3);
        Check.dueThrown("truck -1", x, Check.INDEX, () -> x.stop(-1));
        Check.dueThrown("truck 2", x, Check.INDEX, () -> x.stop(2));
    }

    /** A field that shattered wholly: its acres wear a combine and bring nothing that fills the tank. */
    private static void shatterAndDry(WheatRun x, int field) {
        x.crop(field, 100, 30);
        x.pass(20, 0, 0, 20);
        x.crop(field, 100, 15);
        passUntilSeven(x);
        Check.due("LOST", x.ofField(field, 6), 100);
    }

    private static void passUntilSeven(WheatRun x) {
        do {
            x.pass(1, 0, 60, 0);
        } while (x.many(0) % 24 != 7);
    }

    private static void promise12Mend() {
        WheatRun x = new WheatRun();
        x.field(0, 0, 200, 10, 0);
        x.combine(0, 20);
        Check.due("mended without WEAR", x.mend(0), 0);
        shatterAndDry(x, 0);
        x.cut(0, 0);
        x.pass(4, 0, 60, 0);
        Check.due("mended with WEAR 80", x.mend(0), 240);
        Check.due("WEAR", x.ofCombine(0, 3), 0);
        Check.due("MONEY", x.many(8), 760);
        x.pass(5, 0, 60, 0);
        Check.due("WEAR", x.ofCombine(0, 3), 100);
        Check.due("BROKEN", x.ofCombine(0, 4), 1);
        Check.due("mended when BROKEN", x.mend(0), 300);
        Check.due("BROKEN no more", x.ofCombine(0, 4), 0);
        Check.due("MONEY", x.many(8), 460);
        x.pass(1, 0, 60, 0);
        Check.due("cuts again", x.ofCombine(0, 6), 200);
    }

    private static void promise12MendThrice() {
        WheatRun x = new WheatRun();
        x.field(0, 0, 200, 10, 0);
        x.field(0, 0, 200, 10, 0);
        x.combine(0, 20);
        x.combine(0, 11);
        shatterAndDry(x, 0);
        shatterAndDry(x, 1);
        x.crop(0, 100, 15);
        for (int i = 0; i < 3; i++) {
            x.cut(0, i == 2 ? 1 : 0);
            x.pass(5, 0, 60, 0);
            Check.due("mended for 300", x.mend(0), 300);
        }
        Check.due("MONEY", x.many(8), 100);
        x.cut(0, -1);
        passUntilSeven(x);
        x.cut(1, 1);
        x.pass(3, 0, 60, 0);
        Check.due("mended for 99 of 100", x.mend(1), 99);
        Check.due("MONEY", x.many(8), 1);
        x.pass(1, 0, 60, 0);
        Check.dueThrown("33 of 1", x, Check.STATE, () -> x.mend(1));
        Check.due("WEAR stays", x.ofCombine(1, 3), 11);
        Check.due("mended for nothing", x.mend(0), 0);
    }

    private static void promise12MendForAllMoney() {
        WheatRun x = new WheatRun();
        x.field(0, 0, 1, 10, 0);
        x.field(0, 0, 200, 10, 0);
        x.field(0, 0, 200, 10, 0);
        x.combine(0, 20);
        x.truck(0);
        x.elevator(0, 100, 0, 23, 5, 40);
        Check.dueThrown("combine -1", x, Check.INDEX, () -> x.mend(-1));
        Check.dueThrown("combine 1", x, Check.INDEX, () -> x.mend(1));
        shatterAndDry(x, 1);
        x.crop(0, 100, 15);
        x.crop(0, 80, 15);
        x.cut(0, 0);
        x.fetch(0, 0);
        x.pass(1, 0, 60, 0);
        x.haul(0, 0);
        Check.due("a ticket of 10 bushels", x.pass(1, 0, 60, 0), 1);
        Check.due("MONEY", x.many(8), 1002);
        Check.due("mended", x.mend(0), 3);
        x.cut(0, 1);
        x.pass(5, 0, 60, 0);
        x.mend(0);
        x.pass(5, 0, 60, 0);
        x.mend(0);
        x.pass(7, 0, 60, 0);
        shatterAndDry(x, 2);
        x.cut(0, 2);
        x.pass(5, 0, 60, 0);
        x.mend(0);
        Check.due("MONEY", x.many(8), 99);
        x.combine(0, 11);
        x.combine(0, 17);
        x.cut(1, 2);
        x.cut(2, 2);
        x.cut(0, -1);
        x.pass(2, 0, 60, 0);
        Check.due("WEAR 34", x.ofCombine(2, 3), 34);
        Check.dueThrown("102 of 99", x, Check.STATE, () -> x.mend(2));
        x.cut(2, -1);
        x.pass(1, 0, 60, 0);
        Check.due("mended for all MONEY", x.mend(1), 99);
        Check.due("MONEY", x.many(8), 0);
    }

    private static void promise13Train() {
        WheatRun x = new WheatRun();
        x.elevator(0, 100, 0, 1, 5, 5);
        x.elevator(0, 9990, 0, 1, 5, 5);
        Check.due("least", x.train(0, 1), 101);
        Check.due("more", x.train(0, 899), 1000);
        Check.due("up to all", x.train(1, 9), 9999);
        Check.due("beyond all", x.train(1, 1), 9999);
        Check.due("greatest", x.train(0, 9999), 9999);
        Check.due("all ROOM", x.many(9), 19998);
        x.elevator(0, 0, 0, 1, 5, 5);
        Check.due("from nothing", x.train(2, 9999), 9999);
        Check.dueThrown("elevator -1", x, Check.INDEX, () -> x.train(-1, 1));
        Check.dueThrown("elevator 3", x, Check.INDEX, () -> x.train(3, 1));
        Check.dueThrown("elevator before bushels", x, Check.INDEX, () -> x.train(3, 0));
        WheatRun y = new WheatRun();
        y.elevator(0, 100, 0, 1, 5, 5);
        Check.dueThrown("bushels 0", y, Check.ARGUMENT, () -> y.train(0, 0));
        Check.dueThrown("bushels -1", y, Check.ARGUMENT, () -> y.train(0, -1));
        Check.dueThrown("bushels 10000", y, Check.ARGUMENT, () -> y.train(0, 10000));
        Check.dueThrown("bushels, greatest int", y, Check.ARGUMENT, () -> y.train(0, Integer.MAX_VALUE));
    }

    private static void promise14PassThrows() {
        WheatRun x = new WheatRun();
        x.field(0, 0, 10, 10, 0);
        Check.dueThrown("hours 0", x, Check.ARGUMENT, () -> x.pass(0, 0, 0, 0));
        Check.dueThrown("hours 49", x, Check.ARGUMENT, () -> x.pass(49, 0, 0, 0));
        Check.dueThrown("warmth -1", x, Check.ARGUMENT, () -> x.pass(1, -1, 0, 0));
        Check.dueThrown("warmth 46", x, Check.ARGUMENT, () -> x.pass(1, 46, 0, 0));
        Check.dueThrown("air -1", x, Check.ARGUMENT, () -> x.pass(1, 0, -1, 0));
        Check.dueThrown("air 101", x, Check.ARGUMENT, () -> x.pass(1, 0, 101, 0));
        Check.dueThrown("rain -1", x, Check.ARGUMENT, () -> x.pass(1, 0, 0, -1));
        Check.dueThrown("rain 21", x, Check.ARGUMENT, () -> x.pass(1, 0, 0, 21));
        Check.due("greatest of all", x.pass(48, 45, 100, 20), 0);
        Check.due("NOW", x.many(0), 48);
        Check.due("least of all", x.pass(1, 0, 0, 0), 0);
        Check.due("NOW", x.many(0), 49);
    }

    private static void promise14PassUpToTheLastHour() {
        WheatRun x = new WheatRun();
        x.field(0, 0, 10, 10, 0);
        for (int i = 0; i < 49; i++) {
            x.pass(48, 0, 0, 0);
        }
        x.pass(40, 0, 0, 0);
        Check.dueThrown("beyond 2400", x, Check.STATE, () -> x.pass(9, 30, 0, 0));
        Check.dueThrown("beyond 2400, out of range", x, Check.ARGUMENT, () -> x.pass(49, 0, 0, 0));
        Check.due("up to 2400", x.pass(8, 30, 0, 0), 0);
        Check.due("NOW", x.many(0), 2400);
        Check.due("RIPE", x.ofField(0, 4), 16);
        Check.dueThrown("an hour at 2400", x, Check.STATE, () -> x.pass(1, 0, 0, 0));
        Check.dueThrown("no hour at 2400", x, Check.ARGUMENT, () -> x.pass(0, 0, 0, 0));
    }

    private static void promise14PassCountsTickets() {
        WheatRun x = new WheatRun();
        x.field(0, 0, 100, 10, 0);
        x.crop(0, 80, 15);
        x.combine(0, 1);
        x.combine(0, 1);
        x.truck(0);
        x.truck(0);
        x.elevator(0, 500, 0, 23, 5, 40);
        x.cut(0, 0);
        x.cut(1, 0);
        x.fetch(0, 0);
        x.fetch(1, 1);
        Check.due("none yet", x.pass(10, 0, 60, 0), 0);
        x.haul(0, 0);
        x.haul(1, 0);
        Check.due("two in one hour", x.pass(3, 0, 60, 0), 2);
        Check.due("TICKETS", x.many(7), 2);
        Check.due("no more", x.pass(3, 0, 60, 0), 0);
        x.fetch(0, 0);
        x.pass(1, 0, 60, 0);
        x.haul(0, 0);
        Check.due("one more", x.pass(1, 0, 60, 0), 1);
        Check.due("TICKETS", x.many(7), 3);
    }
}
