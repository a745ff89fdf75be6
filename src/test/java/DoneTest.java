/** Promises 8 to 13: what is done; its edges are in the tests named Edge, what an hour does in those named Hour. */
final class DoneTest {
    private DoneTest() {
    }

    public static void main(String[] args) {
        promise08Cut();
        promise09Fetch();
        promise10Haul();
        promise09And10Replace();
        promise11Stop();
        promise12Mend();
        promise13Train();
        Check.end();
    }

    private static void promise08Cut() {
        WheatRun x = new WheatRun();
        x.field(0, 10, 10, 10, 0);
        x.field(0, 20, 10, 10, 0);
        x.combine(0, 1);
        x.combine(0, 1);
        x.combine(0, 1);
        Check.due("cut NONE by one that has none", x.cut(0, -1), 0);
        Check.due("first to 1", x.cut(2, 1), 1);
        Check.due("second to 1", x.cut(0, 1), 2);
        Check.due("the same again", x.cut(0, 1), 2);
        Check.due("one to 0", x.cut(1, 0), 1);
        Check.due("from 1 to 0", x.cut(0, 0), 2);
        Check.due("sent to 1", x.ofField(1, 11), 1);
        Check.due("sent to 0", x.ofField(0, 11), 2);
        Check.due("FIELD of 2", x.ofCombine(2, 5), 1);
        Check.due("cut NONE", x.cut(0, -1), 0);
        Check.due("FIELD of 0", x.ofCombine(0, 5), -1);
        Check.due("sent to 0 then", x.ofField(0, 11), 1);
        x.pass(1, 0, 0, 0);
        Check.due("sent nowhere, goes nowhere", x.ofCombine(0, 0), 0);
        Check.due("sent to 0, comes there", x.ofCombine(1, 0), 10);
        Check.due("sent to 1, comes there", x.ofCombine(2, 0), 20);
    }

    private static void promise09Fetch() {
        WheatRun x = new WheatRun();
        x.combine(100, 1);
        x.combine(300, 1);
        x.truck(130);
        x.truck(0);
        Check.due("down", x.fetch(0, 0), 30);
        Check.due("up", x.fetch(1, 1), 300);
        x.pass(1, 0, 0, 0);
        Check.due("came there", x.ofTruck(0, 0), 100);
        Check.due("goes there", x.ofTruck(1, 0), 50);
        Check.due("there", x.fetch(0, 0), 0);
        Check.due("on the way", x.fetch(1, 1), 250);
        x.pass(1, 0, 0, 0);
        Check.due("stays there", x.ofTruck(0, 0), 100);
    }

    private static void promise10Haul() {
        WheatRun x = new WheatRun();
        x.elevator(100, 0, 0, 1, 5, 5);
        x.elevator(300, 0, 0, 1, 5, 5);
        x.truck(130);
        x.truck(0);
        Check.due("down", x.haul(0, 0), 30);
        Check.due("up", x.haul(1, 1), 300);
        x.pass(1, 0, 0, 0);
        Check.due("came there", x.ofTruck(0, 0), 100);
        Check.due("goes there", x.ofTruck(1, 0), 50);
        Check.due("there", x.haul(0, 0), 0);
        Check.due("on the way", x.haul(1, 1), 250);
        x.pass(1, 0, 0, 0);
        Check.due("stays there", x.ofTruck(0, 0), 100);
    }

    private static void promise09And10Replace() {
        WheatRun x = new WheatRun();
        x.combine(0, 1);
        x.elevator(200, 0, 0, 1, 5, 5);
        x.truck(100);
        x.fetch(0, 0);
        x.haul(0, 0);
        x.pass(1, 0, 0, 0);
        Check.due("to the elevator", x.ofTruck(0, 0), 150);
        x.fetch(0, 0);
        x.pass(1, 0, 0, 0);
        Check.due("to the combine", x.ofTruck(0, 0), 100);
    }

    private static void promise11Stop() {
        WheatRun x = new WheatRun();
        x.combine(0, 1);
        x.elevator(200, 0, 0, 1, 5, 5);
        x.truck(300);
        x.truck(0);
        x.fetch(0, 0);
        x.haul(1, 0);
        x.pass(3, 0, 0, 0);
        Check.due("HOURS", x.stop(0), 3);
        Check.due("HOURS of the other", x.stop(1), 3);
        x.pass(1, 0, 0, 0);
        Check.due("stopped on the way to a combine", x.ofTruck(0, 0), 150);
        Check.due("stopped on the way to an elevator", x.ofTruck(1, 0), 150);
        Check.due("rests", x.ofTruck(0, 5), 1);
        Check.due("stopped again", x.stop(0), 3);
    }

    private static void promise12Mend() {
        WheatRun x = new WheatRun();
        x.field(0, 0, 200, 10, 0);
        x.combine(0, 20);
        Check.due("mended without WEAR", x.mend(0), 0);
        Lands.shatter(x, 0, 100);
        Lands.passUntil(x, 7);
        x.cut(0, 0);
        x.pass(4, 0, 60, 0);
        Check.due("mended with WEAR 80", x.mend(0), 240);
        Check.due("WEAR", x.ofCombine(0, 3), 0);
        Check.due("MONEY", x.many(8), 760);
        x.pass(5, 0, 60, 0);
        Check.due("WEAR", x.ofCombine(0, 3), 100);
        Check.due("BROKEN", x.ofCombine(0, 4), 1);
        Check.due("mended when BROKEN", x.mend(0), 300);
        Check.due("BROKEN no more", x.ofCombine(0, 4), 0);
        Check.due("MONEY", x.many(8), 460);
        x.pass(1, 0, 60, 0);
        Check.due("cuts again", x.ofCombine(0, 6), 200);
    }

    private static void promise13Train() {
        WheatRun x = new WheatRun();
        x.elevator(0, 100, 0, 1, 5, 5);
        x.elevator(0, 9990, 0, 1, 5, 5);
        Check.due("least", x.train(0, 1), 101);
        Check.due("more", x.train(0, 899), 1000);
        Check.due("up to all", x.train(1, 9), 9999);
        Check.due("beyond all", x.train(1, 1), 9999);
        Check.due("greatest", x.train(0, 9999), 9999);
        Check.due("all ROOM", x.many(9), 19998);
        x.elevator(0, 0, 0, 1, 5, 5);
        Check.due("from nothing", x.train(2, 9999), 9999);
    }
}
