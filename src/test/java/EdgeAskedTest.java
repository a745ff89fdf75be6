/** Promises 3 and 7 to 25: edges of what a call answers, beside those of its arguments. */
final class EdgeAskedTest {
    private EdgeAskedTest() {
    }

    public static void main(String[] args) {
        promise03CropAnswersRipeBefore();
        promise07PriceAnswersThatBefore();
        promise08CutAnswersHowMany();
        promise14PassAnswersThoseWrittenInIt();
        promise15SentThere();
        promise20IdleAndQueuedOfAll();
        promise21MeanDampAtBothEnds();
        promise21MeanDampByAcres();
        promise22ReadyByNow();
        promise22ReadyInAnHour();
        promise22ReadyInTheLongest();
        promise22ReadyNever();
        promise22ReadyForAWhile();
        promise23OneHour();
        promise23AllHours();
        promise23AllCutWhereItIsSent();
        promise23OneBushelMore();
        promise23AsManyAsWhereItIsSent();
        promise23BrokenInThem();
        promise23BushelsOfAnother();
        promise24OneHour();
        promise24AllHours();
        promise24OneAcre();
        Check.end();
    }

    /** "Returns RIPE before": both ends, and what hours made of it. */
    private static void promise03CropAnswersRipeBefore() {
        WheatRun x = new WheatRun();
        x.field(0, 0, 10, 10, 0);
        Check.due("at first", x.crop(0, 100, 40), 0);
        Check.due("100", x.crop(0, 0, 5), 100);
        Check.due("0", x.crop(0, 7, 5), 0);
        x.pass(1, 30, 50, 0);
        Check.due("7 and 2", x.crop(0, 0, 5), 9);
    }

    /** "(1 to 999; 400 at first)", "Returns that before". */
    private static void promise07PriceAnswersThatBefore() {
        WheatRun x = new WheatRun();
        Check.due("at first", x.price(1), 400);
        Check.due("1", x.price(999), 1);
        Check.due("999", x.price(999), 999);
        Check.due("999 again", x.price(400), 999);
    }

    /** "how many COMBINES are sent there then (0 for NONE)": 0 though others are sent to none too. */
    private static void promise08CutAnswersHowMany() {
        WheatRun x = new WheatRun();
        x.field(0, 0, 10, 10, 0);
        for (int i = 0; i < 4; i++) {
            x.combine(0, 1);
        }
        for (int i = 0; i < 4; i++) {
            Check.due("sent, " + i, x.cut(i, 0), i + 1);
        }
        for (int i = 0; i < 4; i++) {
            Check.due("to NONE, " + i, x.cut(i, -1), 0);
            Check.due("left, " + i, x.ofField(0, 11), 3 - i);
        }
    }

    /** "how many TICKETS were written in them": none of those before; 4 at most in an hour. */
    private static void promise14PassAnswersThoseWrittenInIt() {
        WheatRun x = new WheatRun();
        x.elevator(0, 9999, 0, 23, 5, 40);
        for (int i = 0; i < 4; i++) {
            x.field(0, 0, 100, 10, 0);
            x.crop(i, 80, 15);
            x.combine(0, 1);
            x.truck(0);
            x.cut(i, i);
            x.fetch(i, i);
        }
        Check.due("none", x.pass(8, 0, 60, 0), 0);
        for (int i = 0; i < 4; i++) {
            x.haul(i, 0);
        }
        Check.due("four", x.pass(1, 0, 60, 0), 4);
        Check.due("none more", x.pass(48, 0, 60, 0), 0);
        x.fetch(2, 2);
        x.pass(1, 0, 60, 0);
        x.haul(2, 0);
        Check.due("one", x.pass(48, 0, 60, 0), 1);
        Check.due("TICKETS", x.many(7), 5);
    }

    /** "11 COMBINES that are sent there": on the way, BROKEN or not. */
    private static void promise15SentThere() {
        WheatRun x = Lands.ready(200, 10, 1);
        x.field(0, 200, 10, 10, 0);
        Check.due("one", x.ofField(0, 11), 1);
        Check.due("none", x.ofField(1, 11), 0);
        x.cut(0, 1);
        Check.due("none then", x.ofField(0, 11), 0);
        Check.due("one on the way", x.ofField(1, 11), 1);
    }

    /** "11 all IDLE, 12 all QUEUED": those of several. */
    private static void promise20IdleAndQueuedOfAll() {
        WheatRun x = Lands.ready(200, 10, 1);
        x.combine(0, 1);
        x.truck(0);
        x.elevator(0, 0, 0, 23, 5, 40);
        x.cut(1, 0);
        x.fetch(0, 0);
        x.fetch(1, 1);
        Lands.pass(x, 1);
        x.haul(0, 0);
        x.haul(1, 0);
        Lands.pass(x, 2);
        x.stop(1);
        x.cut(1, -1);
        x.crop(0, 0, 15);
        Lands.pass(x, 3);
        Check.due("IDLE", x.many(11), 3);
        Check.due("QUEUED", x.many(12), 2 + 2 + 3);
    }

    /** "the mean DAMP of FIELDS": 5 and 40 are the ends of it. */
    private static void promise21MeanDampAtBothEnds() {
        for (int damp = 5; damp <= 40; damp += 35) {
            WheatRun x = new WheatRun();
            for (int i = 0; i < 8; i++) {
                x.field(0, 0, 200, 10, 0);
                x.crop(i, 0, damp);
            }
            Check.dueExactly("all " + damp, x.meanDamp(), damp);
        }
    }

    /** "each by its ACRES that are not CUT, not rounded". */
    private static void promise21MeanDampByAcres() {
        WheatRun x = new WheatRun();
        x.field(0, 0, 1, 10, 0);
        x.field(0, 0, 200, 10, 0);
        x.crop(0, 0, 40);
        x.crop(1, 0, 5);
        Check.dueExactly("1 of 201 acres", x.meanDamp(), 1040.0 / 201.0);
    }

    private static WheatRun at(int clock, int ripe, int damp) {
        WheatRun x = new WheatRun();
        x.field(0, 0, 10, 10, 0);
        Lands.passTo(x, clock);
        x.crop(0, ripe, damp);
        return x;
    }

    /** "(0: it has by now": with a RIPE of 80, a DAMP of 19 and a CLOCK of 8, each just so much. */
    private static void promise22ReadyByNow() {
        Check.due("just so", at(8, 80, 19).readyIn(0, 45, 100), 0);
        Check.due("CLOCK 7", at(7, 80, 19).readyIn(0, 0, 76), 1);
        Check.due("RIPE 79", at(8, 79, 19).readyIn(0, 15, 76), 1);
        Check.due("DAMP 20", at(8, 80, 20).readyIn(0, 0, 76), 1);
        Check.due("CLOCK 23", at(23, 80, 19).readyIn(0, 0, 100), 0);
        Check.due("CLOCK 0", at(24, 80, 19).readyIn(0, 0, 76), 8);
        Check.due("RIPE 100, DAMP 5", at(12, 100, 5).readyIn(0, 0, 0), 0);
    }

    private static void promise22ReadyInAnHour() {
        Check.due("78 and 2", at(8, 78, 15).readyIn(0, 30, 60), 1);
        Check.due("78 and 1", at(8, 78, 15).readyIn(0, 29, 60), 2);
        Check.due("77 and 2", at(8, 77, 15).readyIn(0, 30, 60), 2);
        Check.due("DAMP 21", at(8, 80, 21).readyIn(0, 0, 60), 2);
    }

    /** "NONE, if not within 96": 80 hours of ripening and a night are the most that any weather makes. */
    private static void promise22ReadyInTheLongest() {
        int longest = 0;
        for (int now = 0; now < 24; now++) {
            longest = Math.max(longest, at(now, 0, 40).readyIn(0, 15, 0));
        }
        Check.due("the longest", longest, 88);
        Check.due("from CLOCK 16", at(16, 0, 40).readyIn(0, 15, 0), 88);
        Check.due("from CLOCK 15", at(15, 0, 40).readyIn(0, 15, 0), 80);
        Check.due("from CLOCK 23", at(23, 0, 40).readyIn(0, 15, 0), 81);
    }

    private static void promise22ReadyNever() {
        Check.due("too cold", at(8, 79, 15).readyIn(0, 14, 60), -1);
        Check.due("AIR of 20", at(8, 80, 30).readyIn(0, 45, 80), -1);
        Check.due("AIR of 19", at(8, 80, 30).readyIn(0, 45, 79), 11);
        Check.due("unripe and damp", at(8, 0, 30).readyIn(0, 0, 0), -1);
        Check.due("RIPE 59, cold, too damp", at(8, 59, 20).readyIn(0, 14, 0), -1);
    }

    /** "it would first have": dry enough at night alone does not count, as the AIR makes it damp by day. */
    private static void promise22ReadyForAWhile() {
        Check.due("DAMP 18 at 6, 20 at 8", at(6, 80, 18).readyIn(0, 0, 80), -1);
        Check.due("DAMP 17 at 6, 19 at 8", at(6, 80, 17).readyIn(0, 0, 80), 2);
    }

    /** "hours .. 1 to 48": the cut of the one hour that follows. */
    private static void promise23OneHour() {
        WheatRun x = Lands.ready(5, 10, 5);
        x.field(0, 0, 4, 10, 0);
        x.crop(1, 80, 15);
        Check.due("CLOCK 8", x.nextField(0, 1, 0, 60), 0);
        x.crop(0, 79, 15);
        Check.due("the other", x.nextField(0, 1, 0, 60), 1);
        x.crop(1, 79, 15);
        Check.due("none", x.nextField(0, 1, 0, 60), -1);
        Check.due("ripe by then", x.nextField(0, 1, 15, 60), 0);
    }

    /** Of 48 hours from CLOCK 7 those of two days: 32 acres, so that 31 are fewer and 33 no more. */
    private static void promise23AllHours() {
        WheatRun x = new WheatRun();
        x.field(0, 0, 31, 10, 0);
        x.field(0, 0, 32, 10, 0);
        x.field(0, 0, 33, 10, 0);
        x.combine(0, 1);
        Lands.pass(x, 7);
        for (int i = 0; i < 3; i++) {
            x.crop(i, 80, 15);
        }
        Check.due("in 48 hours", x.nextField(0, 48, 0, 60), 1);
        Check.due("in 39 hours", x.nextField(0, 39, 0, 60), 0);
        x.cut(0, 2);
        Check.due("in 48 hours, sent to the last", x.nextField(0, 48, 0, 60), 2);
    }

    /** "the FIELD with ACRES that are not CUT": where nothing is left it is not, though it is sent there. */
    private static void promise23AllCutWhereItIsSent() {
        WheatRun x = Lands.ready(1, 10, 1);
        x.fetch(0, 0);
        Lands.pass(x, 1);
        Check.due("alone", x.nextField(0, 48, 0, 60), -1);
        x.field(0, 0, 1, 10, 0);
        x.crop(1, 0, 15);
        Check.due("with an unripe one", x.nextField(0, 48, 0, 60), -1);
        x.crop(1, 80, 15);
        Check.due("with a ripe one", x.nextField(0, 48, 0, 60), 1);
    }

    /** "it would cut most bushels": 1 more is more, wherever it is sent. */
    private static void promise23OneBushelMore() {
        WheatRun x = new WheatRun();
        x.field(0, 0, 10, 50, 0);
        x.field(0, 0, 10, 51, 0);
        x.field(0, 0, 10, 50, 0);
        x.combine(0, 1);
        Lands.pass(x, 7);
        for (int i = 0; i < 3; i++) {
            x.crop(i, 80, 15);
        }
        for (int sent = -1; sent < 3; sent++) {
            x.cut(0, sent);
            Check.due("sent to " + sent, x.nextField(0, 3, 0, 60), 1);
        }
    }

    /** "of several that to which it is sent, then the smallest number": for all 8. */
    private static void promise23AsManyAsWhereItIsSent() {
        WheatRun x = new WheatRun();
        x.combine(0, 1);
        Lands.pass(x, 7);
        for (int i = 0; i < 8; i++) {
            x.field(0, 0, 10, 50, 0);
            x.crop(i, 80, 15);
        }
        for (int sent = -1; sent < 8; sent++) {
            x.cut(0, sent);
            Check.due("sent to " + sent, x.nextField(0, 3, 0, 60), Math.max(sent, 0));
        }
        x.crop(0, 0, 15);
        x.crop(5, 0, 15);
        x.cut(0, 5);
        Check.due("sent to an unripe one", x.nextField(0, 3, 0, 60), 1);
    }

    /** It breaks in the hours that are tried as it would: with a WEAR of 90, 10 acres are the last. */
    private static void promise23BrokenInThem() {
        WheatRun x = Lands.shattered(90, 10, 100, 10);
        Lands.pass(x, 9);
        Check.due("WEAR", x.ofCombine(0, 3), 90);
        x.field(0, 0, 10, 11, 0);
        x.field(0, 0, 40, 10, 0);
        x.crop(1, 80, 15);
        x.crop(2, 80, 15);
        Check.due("110 of 10 acres", x.nextField(0, 5, 0, 60), 1);
        Check.due("mended", x.mend(0), 270);
        Check.due("400 of 40 acres", x.nextField(0, 5, 0, 60), 2);
        Check.due("not BROKEN by that", x.ofCombine(0, 4), 0);
    }

    /** "or if its TANK has bushels of another FIELD": it would wait there, so that only its own is left. */
    private static void promise23BushelsOfAnother() {
        WheatRun x = Lands.ready(2, 10, 1);
        x.field(0, 0, 100, 90, 0);
        x.crop(1, 80, 15);
        Lands.pass(x, 1);
        Check.due("TANK", x.ofCombine(0, 1), 10);
        Check.due("its own acre", x.nextField(0, 10, 0, 60), 0);
        x.cut(0, 1);
        Check.due("its own acre, sent away", x.nextField(0, 10, 0, 60), 0);
        x.fetch(0, 0);
        Check.due("a TRUCK empties it", x.nextField(0, 10, 0, 60), 1);
    }

    private static WheatRun ripe(int acres, int clock) {
        WheatRun x = new WheatRun();
        x.field(0, 0, acres, 50, 0);
        Lands.passTo(x, clock);
        x.crop(0, 100, 10);
        return x;
    }

    /** "what an acre BRINGS now, less what it would BRING behind them": 1 hour is the one that follows. */
    private static void promise24OneHour() {
        int[][] rows = {{10, 0}, {11, 1}, {16, 1}, {17, 0}};
        for (int[] row : rows) {
            Check.due("from CLOCK " + row[0], ripe(100, row[0]).waiting(0, 1, 0, 40, 0), 100 * row[1]);
        }
        Check.due("RAIN 9", ripe(100, 0).waiting(0, 1, 0, 40, 9), 0);
        Check.due("RAIN 10", ripe(100, 0).waiting(0, 1, 0, 40, 10), 300);
    }

    private static void promise24AllHours() {
        Check.due("12 of LOST", ripe(100, 0).waiting(0, 48, 0, 40, 0), 600);
        Check.due("all of it", ripe(200, 0).waiting(0, 48, 0, 40, 20), 10000);
        Check.due("19 hours", ripe(200, 0).waiting(0, 19, 0, 40, 20), 200 * (50 - 2));
        Check.due("20 hours", ripe(200, 0).waiting(0, 20, 0, 40, 20), 200 * 50);
    }

    /** "its acres that are not CUT": one; and rounded down for an acre, not for all: 50 of 10 LOST 5 is 9. */
    private static void promise24OneAcre() {
        Check.due("one acre", ripe(1, 0).waiting(0, 48, 0, 40, 20), 50);
        WheatRun x = new WheatRun();
        x.field(0, 0, 200, 10, 0);
        x.crop(0, 100, 10);
        Check.due("10 less 9, not 9.5", x.waiting(0, 1, 0, 40, 10), 200);
    }
}
