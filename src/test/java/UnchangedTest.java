/** A call that throws changes nothing, not even what only later hours show. */
final class UnchangedTest {
    private static final int RUNS = 40;

    private UnchangedTest() {
    }

    public static void main(String[] args) {
        for (int run = 0; run < RUNS; run++) {
            Replay replay = new Replay(1000 + run);
            replay.tellAndDo(30);
            WheatRun plain = new WheatRun();
            WheatRun wronged = new WheatRun();
            for (int[] call : replay.calls) {
                wrong(wronged);
                Check.due("run " + run, Replay.make(wronged, call), Replay.make(plain, call));
            }
            wrong(wronged);
            Check.due("run " + run + ": digest", wronged.digest(), plain.digest());
            Check.due("run " + run + ": PRICE", wronged.price(7), plain.price(7));
            for (int truck = 0; truck < plain.many(5); truck++) {
                Check.due("run " + run + ": HOURS", wronged.stop(truck), plain.stop(truck));
            }
        }
        Check.end();
    }

    private static void dueIndex(String what, Check.Call call) {
        due(what, Check.INDEX, call);
    }

    private static void dueArgument(String what, Check.Call call) {
        due(what, Check.ARGUMENT, call);
    }

    private static void due(String what, Class<? extends RuntimeException> kind, Check.Call call) {
        try {
            call.make();
            Check.fail(what + " threw nothing");
        } catch (RuntimeException e) {
            if (e.getClass() != kind) {
                Check.fail(what + " threw " + e);
            }
            Check.dueOwnThrow(what, e);
        }
    }

    private static void wrong(WheatRun x) {
        wrongTold(x);
        wrongDone(x);
        wrongAsked(x);
    }

    private static void wrongTold(WheatRun x) {
        dueIndex("field", () -> x.field(4, 0, 1, 10, 0));
        dueArgument("field", () -> x.field(0, 0, 1, 10, 51));
        dueIndex("crop", () -> x.crop(x.many(1), 100, 5));
        if (x.many(1) > 0) {
            dueArgument("crop", () -> x.crop(0, 101, 5));
            dueArgument("crop", () -> x.crop(0, 100, 41));
        }
        dueArgument("combine", () -> x.combine(301, 1));
        dueArgument("combine", () -> x.combine(0, 21));
        dueArgument("truck", () -> x.truck(301));
        dueArgument("elevator", () -> x.elevator(0, 9999, 1, 1, 5, 40));
        dueArgument("elevator", () -> x.elevator(0, 9999, 1, 0, 20, 19));
        dueArgument("price", () -> x.price(1000));
        if (x.many(1) == 8) {
            due("field", Check.STATE, () -> x.field(0, 0, 1, 10, 0));
        }
        if (x.many(3) == 4) {
            due("combine", Check.STATE, () -> x.combine(0, 1));
        }
        if (x.many(5) == 4) {
            due("truck", Check.STATE, () -> x.truck(0));
        }
        if (x.many(6) == 3) {
            due("elevator", Check.STATE, () -> x.elevator(0, 9999, 0, 23, 5, 40));
        }
    }

    private static void wrongDone(WheatRun x) {
        dueIndex("cut", () -> x.cut(0, x.many(1)));
        dueIndex("cut", () -> x.cut(0, -2));
        dueIndex("cut", () -> x.cut(x.many(3), -1));
        for (int truck = 0; truck < 4; truck++) {
            int one = truck;
            dueIndex("fetch", () -> x.fetch(one, x.many(3)));
            dueIndex("haul", () -> x.haul(one, x.many(6)));
            dueIndex("fetch", () -> x.fetch(one, -1));
            dueIndex("haul", () -> x.haul(one, -1));
        }
        dueIndex("fetch", () -> x.fetch(x.many(5), 0));
        dueIndex("haul", () -> x.haul(x.many(5), 0));
        dueIndex("stop", () -> x.stop(x.many(5)));
        dueIndex("stop", () -> x.stop(-1));
        dueIndex("mend", () -> x.mend(x.many(3)));
        dueIndex("train", () -> x.train(x.many(6), 9));
        if (x.many(6) > 0) {
            dueArgument("train", () -> x.train(0, 10000));
            dueArgument("train", () -> x.train(0, -1));
        }
        dueArgument("pass", () -> x.pass(49, 30, 0, 0));
        dueArgument("pass", () -> x.pass(1, 46, 0, 0));
        dueArgument("pass", () -> x.pass(1, 30, 101, 0));
        dueArgument("pass", () -> x.pass(1, 30, 0, 21));
    }

    private static void wrongAsked(WheatRun x) {
        dueIndex("ofField", () -> x.ofField(x.many(1), 0));
        dueIndex("ofCombine", () -> x.ofCombine(x.many(3), 0));
        dueIndex("ofTruck", () -> x.ofTruck(x.many(5), 0));
        dueIndex("ofTicket", () -> x.ofTicket(x.many(7), 0));
        dueIndex("owed", () -> x.owed(4, true));
        dueArgument("many", () -> x.many(13));
        dueIndex("readyIn", () -> x.readyIn(x.many(1), 20, 20));
        dueIndex("nextField", () -> x.nextField(x.many(3), 1, 20, 20));
        dueIndex("waiting", () -> x.waiting(x.many(1), 1, 20, 20, 0));
        if (x.many(3) > 0) {
            dueArgument("nextField", () -> x.nextField(0, 49, 20, 20));
        }
        if (x.many(1) > 0) {
            dueArgument("waiting", () -> x.waiting(0, 48, 20, 20, 21));
            dueArgument("readyIn", () -> x.readyIn(0, 20, 101));
        }
    }
}
