import java.util.function.Supplier;

/** Lands that several tests begin with, and how two of them are told apart. With AIR 60 a DAMP of 15 stays. */
final class Lands {
    private Lands() {
    }

    static void pass(WheatRun x, int hours) {
        x.pass(hours, 0, 60, 0);
    }

    /** Passes hours, in which nothing ripens and ripe FIELDS come to a DAMP of 15, until the CLOCK is as told. */
    static void passUntil(WheatRun x, int clock) {
        for (int hour = 0; hour < 24 && x.many(0) % 24 != clock; hour++) {
            pass(x, 1);
        }
    }

    static void passTo(WheatRun x, int now) {
        while (x.many(0) < now) {
            pass(x, Math.min(48, now - x.many(0)));
        }
    }

    /** One FIELD of a YIELD, ready to be cut, with a COMBINE, a TRUCK without a place, all at MILE 0; CLOCK 7. */
    static WheatRun ready(int acres, int bushels, int pace) {
        WheatRun x = new WheatRun();
        x.field(0, 0, acres, bushels, 0);
        x.crop(0, 80, 15);
        x.combine(0, pace);
        x.truck(0);
        pass(x, 7);
        x.cut(0, 0);
        return x;
    }

    /** Rains on a FIELD until it LOST so much, 5 an hour; then it is as ready as it was. */
    static void shatter(WheatRun x, int field, int lost) {
        x.crop(field, 100, 30);
        while (x.ofField(field, 6) < lost) {
            x.pass(1, 0, 60, 10);
        }
        x.crop(field, 100, 15);
        Check.due("LOST", x.ofField(field, 6), lost);
    }

    /** As ready(), where the FIELD LOST so much of its YIELD; a LANDLORD has 50 of 100 of it. */
    static WheatRun shattered(int acres, int bushels, int lost, int pace) {
        WheatRun x = new WheatRun();
        x.field(0, 0, acres, bushels, 50);
        x.combine(0, pace);
        x.truck(0);
        shatter(x, 0, lost);
        passUntil(x, 7);
        x.cut(0, 0);
        return x;
    }

    /** TRUCK 0 takes what COMBINE 0 cuts in an hour, and sells that at an ELEVATOR at its MILE; one TICKET. */
    static void sell(WheatRun x, int elevator) {
        x.fetch(0, 0);
        pass(x, 1);
        x.cut(0, -1);
        x.haul(0, elevator);
        Check.due("TICKETS of a sale", x.pass(1, 0, 60, 0), 1);
    }

    /**
     * Two FIELDS, COMBINES, TRUCKS and ELEVATORS at NOW 12: TICKETS of 400 and 200 bushels of FIELD 0,
     * 390 bushels of FIELD 1 in a TANK, 400 of FIELD 0 on TRUCK 0. One more of each could be told.
     */
    static WheatRun half() {
        WheatRun x = new WheatRun();
        x.field(1, 0, 100, 50, 20);
        x.field(2, 40, 60, 30, 50);
        x.crop(0, 80, 15);
        x.crop(1, 80, 15);
        x.combine(0, 4);
        x.combine(40, 3);
        x.truck(0);
        x.truck(0);
        x.elevator(0, 900, 0, 23, 10, 30);
        x.elevator(20, 500, 20, 6, 12, 18);
        x.cut(0, 0);
        x.cut(1, 1);
        x.fetch(0, 0);
        x.fetch(1, 0);
        pass(x, 9);
        x.haul(0, 0);
        pass(x, 1);
        x.haul(1, 0);
        pass(x, 1);
        x.fetch(0, 0);
        pass(x, 1);
        return x;
    }

    /** As half(), at NOW 2400. */
    static WheatRun last() {
        WheatRun x = half();
        passTo(x, 2400);
        return x;
    }

    /** As many of each as may be told, at work; NOW 10. */
    static WheatRun full() {
        WheatRun x = new WheatRun();
        for (int i = 0; i < 8; i++) {
            x.field(i % 4, 10 * i, 100, 20, 5 * i);
            x.crop(i, 80, 15);
        }
        for (int i = 0; i < 4; i++) {
            x.combine(10 * i, 3);
            x.truck(20);
            x.cut(i, i);
            x.fetch(i, i);
        }
        for (int i = 0; i < 3; i++) {
            x.elevator(30 * i, 400, 0, 23, 10, 20);
        }
        pass(x, 10);
        return x;
    }

    /** MONEY is 100 and COMBINE 0 has a WEAR of 40, which costs 120; it cut where an acre BRINGS nothing. */
    static WheatRun poor() {
        WheatRun x = new WheatRun();
        x.field(0, 0, 200, 10, 0);
        x.field(0, 0, 200, 10, 0);
        x.crop(0, 100, 15);
        x.crop(1, 100, 15);
        x.combine(0, 20);
        x.pass(20, 0, 60, 20);
        x.crop(0, 100, 15);
        x.crop(1, 100, 15);
        passUntil(x, 8);
        for (int i = 0; i < 3; i++) {
            x.cut(0, i / 2);
            pass(x, 5);
            x.mend(0);
        }
        pass(x, 10);
        return x;
    }

    /**
     * Nothing that a later call answers tells the one from the other: neither what one asks, nor what
     * the hours, a PRICE, mending, trains and stopping bring. Both are used up by this.
     */
    static void dueSame(String what, WheatRun x, WheatRun y) {
        Check.due(what + ": digest", x.digest(), y.digest());
        Check.dueExactly(what + ": meanDamp", x.meanDamp(), y.meanDamp());
        dueSameAnswer(what, x, y, 12, 20, 20, 50, 0);
        dueSameAnswer(what, x, y, 5, 7);
        for (int i = 0; i < 4; i++) {
            dueSameAnswer(what, x, y, 11, i, 1);
            dueSameAnswer(what, x, y, 10, i);
            dueSameAnswer(what, x, y, 9, i);
        }
        dueSameAnswer(what, x, y, 12, 3, 30, 20, 10);
        Check.due(what + ": digest at last", x.digest(), y.digest());
    }

    private static void dueSameAnswer(String what, WheatRun x, WheatRun y, int... call) {
        Check.due(what + ": later call " + call[0] + " of " + call[1], Replay.make(x, call), Replay.make(y, call));
    }

    /** The call throws just that, by itself, and nothing tells the land from one in which it was not made. */
    static void dueRefused(Supplier<WheatRun> land, Class<? extends RuntimeException> kind, Face call, int... arguments) {
        WheatRun x = land.get();
        String what = call.told(arguments);
        String got = "nothing";
        try {
            call.on(x, arguments);
        } catch (RuntimeException e) {
            got = e.getClass().getSimpleName();
            Check.dueOwnThrow(what, e);
        }
        if (!got.equals(kind.getSimpleName())) {
            Check.fail(what + " threw " + got + ", due is " + kind.getSimpleName());
        }
        dueSame(what, x, land.get());
    }

    /** The call answers; if it only asks, nothing tells the land from one in which it was not asked. */
    static void dueAllowed(Supplier<WheatRun> land, Face call, int... arguments) {
        WheatRun x = land.get();
        String what = call.told(arguments);
        try {
            call.on(x, arguments);
        } catch (RuntimeException e) {
            Check.fail(what + " threw " + e);
        }
        if (call.isQuestion()) {
            dueSame(what, x, land.get());
        }
    }
}
