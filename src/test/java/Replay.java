import java.util.ArrayList;
import java.util.List;

/** Runs of calls, made by counting alone, that can be played again on a new land. */
final class Replay {
    private static final int WEATHERS = 8;

    final List<int[]> calls = new ArrayList<int[]>();
    private long seed;

    Replay(long seed) {
        this.seed = seed * 7919 + 17;
    }

    private int below(int bound) {
        seed = seed * 6364136223846793005L + 1442695040888963407L;
        return (int) ((seed >>> 33) % bound);
    }

    private int between(int least, int greatest) {
        return least + below(greatest - least + 1);
    }

    private int oneOf(int... values) {
        return values[below(values.length)];
    }

    /** A land in which something happens: ripe fields near to each other, sent crews, mostly good weather. */
    void tellAndDo(int many) {
        for (int i = between(1, 4); i > 0; i--) {
            calls.add(new int[] {0, below(4), 10 * below(12), between(1, 200), between(10, 90), below(51)});
        }
        for (int i = 0; i < 4; i++) {
            calls.add(new int[] {1, i, between(55, 100), between(5, 24)});
        }
        for (int i = between(1, 4); i > 0; i--) {
            calls.add(new int[] {2, 10 * below(12), between(1, 20)});
            calls.add(new int[] {3, 10 * below(12)});
        }
        for (int i = between(1, 3); i > 0; i--) {
            int least = between(5, 15);
            calls.add(new int[] {4, 10 * below(12), below(3000), below(24), below(24), least, least + below(25)});
        }
        for (int i = 0; i < many; i++) {
            if (below(4) == 0) {
                sell();
            } else {
                calls.add(next());
            }
        }
        for (int i = 0; i < 4; i++) {
            calls.add(new int[] {1, i, between(70, 100), between(8, 22)});
            if (below(2) == 0) {
                calls.add(new int[] {7, i, below(4)});
            }
        }
    }

    /** What brings a ticket, if all is as it should be. */
    private void sell() {
        int truck = below(3);
        int combine = below(3);
        calls.add(new int[] {6, combine, below(3)});
        calls.add(new int[] {7, truck, combine});
        calls.add(new int[] {12, between(1, 14), 20, oneOf(20, 40, 60), 0});
        calls.add(new int[] {8, truck, below(2)});
        calls.add(new int[] {12, between(1, 14), 20, oneOf(20, 40, 60), 0});
    }

    private int[] next() {
        switch (below(12)) {
            case 0: return new int[] {1, below(9), between(70, 100), between(5, 22)};
            case 1: return new int[] {6, below(5), below(6) - 1};
            case 2: return new int[] {6, below(4), below(4)};
            case 3: return new int[] {7, below(4), below(4)};
            case 4: return new int[] {7, below(5), below(5)};
            case 5: return new int[] {8, below(4), below(3)};
            case 6: return new int[] {8, below(5), below(4)};
            case 7: return new int[] {9, below(5)};
            case 8: return below(3) == 0 ? new int[] {10, below(5)} : new int[] {11, below(4), below(500)};
            case 9: return below(3) == 0 ? new int[] {5, below(1100)} : weather();
            default: return weather();
        }
    }

    private int[] weather() {
        int rain = below(WEATHERS) == 0 ? oneOf(1, 9, 10, 20) : 0;
        return new int[] {12, between(1, rain > 0 ? 3 : 14), oneOf(10, 15, 20, 30), oneOf(20, 40, 50, 60, 70, 90), rain};
    }

    WheatRun play() {
        WheatRun x = new WheatRun();
        for (int[] call : calls) {
            make(x, call);
        }
        return x;
    }

    /** What the call answers, or -2 to -4 for what it throws. */
    static int make(WheatRun x, int[] call) {
        try {
            return answer(x, call);
        } catch (IndexOutOfBoundsException e) {
            return -2;
        } catch (IllegalArgumentException e) {
            return -3;
        } catch (IllegalStateException e) {
            return -4;
        }
    }

    private static int answer(WheatRun x, int[] c) {
        switch (c[0]) {
            case 0: return x.field(c[1], c[2], c[3], c[4], c[5]);
            case 1: return x.crop(c[1], c[2], c[3]);
            case 2: return x.combine(c[1], c[2]);
            case 3: return x.truck(c[1]);
            case 4: return x.elevator(c[1], c[2], c[3], c[4], c[5], c[6]);
            case 5: return x.price(c[1]);
            case 6: return x.cut(c[1], c[2]);
            case 7: return x.fetch(c[1], c[2]);
            case 8: return x.haul(c[1], c[2]);
            case 9: return x.stop(c[1]);
            case 10: return x.mend(c[1]);
            case 11: return x.train(c[1], c[2]);
            default: return x.pass(c[1], c[2], c[3], c[4]);
        }
    }

    /** The digest as promise 25 tells it, by the calls of the face. */
    static long digestOf(WheatRun x) {
        List<Long> values = new ArrayList<Long>();
        for (int what = 0; what <= 12; what++) {
            values.add((long) x.many(what));
        }
        for (int i = 0; i < x.many(1); i++) {
            for (int what = 0; what <= 11; what++) {
                values.add((long) x.ofField(i, what));
            }
            values.add((long) x.readyIn(i, 25, 40));
            values.add((long) x.waiting(i, 24, 30, 20, 0));
        }
        for (int i = 0; i < x.many(3); i++) {
            for (int what = 0; what <= 7; what++) {
                values.add((long) x.ofCombine(i, what));
            }
            values.add((long) x.nextField(i, 12, 30, 40));
        }
        for (int i = 0; i < x.many(5); i++) {
            for (int what = 0; what <= 7; what++) {
                values.add((long) x.ofTruck(i, what));
            }
        }
        for (int i = 0; i < x.many(7); i++) {
            for (int what = 0; what <= 6; what++) {
                values.add((long) x.ofTicket(i, what));
            }
        }
        for (int farmer = 0; farmer < 4; farmer++) {
            values.add((long) x.owed(farmer, false));
            values.add((long) x.owed(farmer, true));
        }
        long d = 7812;
        for (long value : values) {
            d = d * 31 + value;
        }
        return d;
    }
}
