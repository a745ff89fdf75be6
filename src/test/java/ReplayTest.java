/** Long runs, whose answers are compared with what comes when the same run is played on again. */
final class ReplayTest {
    private static final int RUNS = 150;
    private static final int[][] WEATHERS = {{30, 40}, {15, 70}, {0, 60}, {29, 20}};

    private static int tickets = 0;
    private static int sent = 0;

    private ReplayTest() {
    }

    public static void main(String[] args) {
        for (int run = 0; run < RUNS; run++) {
            Replay replay = new Replay(run);
            replay.tellAndDo(40);
            tickets += replay.play().many(7);
            promise25DigestIsThatOfTheFace(run, replay.play());
            sumsAgree(run, replay.play());
            ticketsAgree(run, replay, replay.play());
            promise22ReadyInComesTrue(run, replay, replay.play());
            promise23NextFieldComesTrue(run, replay, replay.play());
            promise24WaitingComesTrue(run, replay, replay.play());
            askingChangesNothing(run, replay, replay.play());
        }
        Check.due("runs have tickets", tickets > RUNS ? 1 : 0, 1);
        Check.due("runs have answers of nextField", sent > 100 ? 1 : 0, 1);
        Check.end();
    }

    private static void promise25DigestIsThatOfTheFace(int run, WheatRun x) {
        Check.due("run " + run + ": digest", x.digest(), Replay.digestOf(x));
    }

    private static int sumOverFields(WheatRun x, int what) {
        int sum = 0;
        for (int i = 0; i < x.many(1); i++) {
            sum += x.ofField(i, what);
        }
        return sum;
    }

    private static int sumOverCombines(WheatRun x, int what) {
        int sum = 0;
        for (int i = 0; i < x.many(3); i++) {
            sum += x.ofCombine(i, what);
        }
        return sum;
    }

    private static int sumOverTrucks(WheatRun x, int what) {
        int sum = 0;
        for (int i = 0; i < x.many(5); i++) {
            sum += x.ofTruck(i, what);
        }
        return sum;
    }

    private static int sumOverTickets(WheatRun x, int what) {
        int sum = 0;
        for (int i = 0; i < x.many(7); i++) {
            sum += x.ofTicket(i, what);
        }
        return sum;
    }

    private static void sumsAgree(int run, WheatRun x) {
        String what = "run " + run + ": ";
        Check.due(what + "acres", x.many(2), sumOverFields(x, 2) - sumOverFields(x, 3));
        Check.due(what + "acres cut", sumOverFields(x, 3), sumOverCombines(x, 6));
        Check.due(what + "BROKEN", x.many(4), sumOverCombines(x, 4));
        Check.due(what + "on the way", x.many(10), sumOverFields(x, 9));
        Check.due(what + "on the way by machines", x.many(10), sumOverCombines(x, 1) + sumOverTrucks(x, 1));
        Check.due(what + "IDLE", x.many(11), sumOverCombines(x, 7));
        Check.due(what + "QUEUED", x.many(12), sumOverTrucks(x, 6));
        Check.due(what + "bushels of TICKETS", sumOverTickets(x, 1), sumOverFields(x, 8));
        int owed = 0;
        for (int farmer = 0; farmer < 4; farmer++) {
            owed += x.owed(farmer, false) + x.owed(farmer, true);
        }
        Check.due(what + "owed", owed, sumOverTickets(x, 6));
        double damp = 0;
        for (int i = 0; i < x.many(1); i++) {
            damp += x.ofField(i, 5) * (x.ofField(i, 2) - x.ofField(i, 3));
        }
        Check.dueExactly(what + "meanDamp", x.meanDamp(), x.many(2) == 0 ? 0 : damp / x.many(2));
    }

    /** Who is owed what, by the tickets and the fields as they were told. */
    private static void ticketsAgree(int run, Replay replay, WheatRun x) {
        int[][] told = new int[8][];
        int fields = 0;
        for (int[] call : replay.calls) {
            if (call[0] == 0) {
                told[fields++] = call;
            }
        }
        int[] farmers = new int[4];
        int[] landlords = new int[4];
        int[] bushels = new int[8];
        for (int i = 0; i < x.many(7); i++) {
            int[] field = told[x.ofTicket(i, 0)];
            int worth = x.ofTicket(i, 6);
            landlords[field[1]] += worth * field[5] / 100;
            farmers[field[1]] += worth - worth * field[5] / 100;
            bushels[x.ofTicket(i, 0)] += x.ofTicket(i, 1);
            Check.due("run " + run + ": hours in order",
                    i == 0 || x.ofTicket(i - 1, 5) <= x.ofTicket(i, 5) ? 1 : 0, 1);
        }
        for (int farmer = 0; farmer < 4; farmer++) {
            Check.due("run " + run + ": FARMER " + farmer, x.owed(farmer, false), farmers[farmer]);
            Check.due("run " + run + ": LANDLORDS of " + farmer, x.owed(farmer, true), landlords[farmer]);
        }
        for (int i = 0; i < x.many(1); i++) {
            Check.due("run " + run + ": sold of " + i, x.ofField(i, 8), bushels[i]);
            boolean isOpen = x.ofField(i, 7) == 0 || x.ofField(i, 9) > 0;
            int due = isOpen ? -1 : bushels[i] * 1000 / x.ofField(i, 7);
            Check.due("run " + run + ": CORRECTION of " + i, x.ofField(i, 10), due);
        }
    }

    private static boolean isReady(WheatRun x, int field) {
        return x.ofField(field, 4) >= 80 && x.ofField(field, 5) < 20 && x.many(0) % 24 >= 8;
    }

    private static void promise22ReadyInComesTrue(int run, Replay replay, WheatRun x) {
        int[] weather = WEATHERS[run % WEATHERS.length];
        WheatRun later = replay.play();
        int[] due = new int[x.many(1)];
        java.util.Arrays.fill(due, -1);
        for (int hour = 0; hour <= 96; hour++) {
            if (hour > 0) {
                later.pass(1, weather[0], weather[1], 0);
            }
            for (int i = 0; i < due.length; i++) {
                if (due[i] < 0 && isReady(later, i)) {
                    due[i] = hour;
                }
            }
        }
        for (int i = 0; i < due.length; i++) {
            Check.due("run " + run + ": readyIn " + i, x.readyIn(i, weather[0], weather[1]), due[i]);
        }
    }

    private static int brings(WheatRun x, Replay replay, int field) {
        int number = 0;
        for (int[] call : replay.calls) {
            if (call[0] == 0 && number++ == field) {
                return call[4] * (100 - x.ofField(field, 6)) / 100;
            }
        }
        return 0;
    }

    private static int bushelsIfSent(Replay replay, int combine, int field, int hours, int[] weather) {
        WheatRun x = replay.play();
        x.cut(combine, field);
        int bushels = 0;
        for (int hour = 0; hour < hours; hour++) {
            int before = x.ofCombine(combine, 6);
            x.pass(1, weather[0], weather[1], 0);
            bushels += (x.ofCombine(combine, 6) - before) * brings(x, replay, field);
        }
        return bushels;
    }

    private static void promise23NextFieldComesTrue(int run, Replay replay, WheatRun x) {
        int[] weather = WEATHERS[run % WEATHERS.length];
        int hours = 1 + run * 7 % 48;
        for (int combine = 0; combine < x.many(3); combine++) {
            int goal = x.ofCombine(combine, 5);
            int due = -1;
            int most = 0;
            for (int i = 0; i < x.many(1); i++) {
                int bushels = x.ofField(i, 2) > x.ofField(i, 3)
                        ? bushelsIfSent(replay, combine, i, hours, weather) : 0;
                if (bushels > most || bushels > 0 && bushels == most && i == goal) {
                    most = bushels;
                    due = i;
                }
            }
            sent += due >= 0 ? 1 : 0;
            String what = "run " + run + ": nextField " + combine + " in " + hours;
            Check.due(what, x.nextField(combine, hours, weather[0], weather[1]), due);
        }
    }

    private static void promise24WaitingComesTrue(int run, Replay replay, WheatRun x) {
        int[] weather = WEATHERS[run % WEATHERS.length];
        int hours = 1 + run * 11 % 48;
        int rain = run % 3 == 0 ? 10 : 0;
        WheatRun later = replay.play();
        later.pass(hours, weather[0], weather[1], rain);
        for (int i = 0; i < x.many(1); i++) {
            int acres = x.ofField(i, 2) - x.ofField(i, 3);
            int due = acres * (brings(x, replay, i) - brings(later, replay, i));
            Check.due("run " + run + ": waiting " + i, x.waiting(i, hours, weather[0], weather[1], rain), due);
        }
    }

    private static void askingChangesNothing(int run, Replay replay, WheatRun asked) {
        WheatRun fresh = replay.play();
        for (int day = 0; day < 3; day++) {
            Check.due("run " + run + ": asked or not", asked.digest(), fresh.digest());
            Check.due("run " + run + ": passes as well", asked.pass(24, 20, 40, 0), fresh.pass(24, 20, 40, 0));
        }
        Check.due("run " + run + ": asked or not", asked.digest(), fresh.digest());
    }
}
