/** The calls of the face, each taking its arguments as numbers, so that tables can name them. */
enum Face {
    FIELD((x, a) -> x.field(a[0], a[1], a[2], a[3], a[4])),
    CROP((x, a) -> x.crop(a[0], a[1], a[2])),
    COMBINE((x, a) -> x.combine(a[0], a[1])),
    TRUCK((x, a) -> x.truck(a[0])),
    ELEVATOR((x, a) -> x.elevator(a[0], a[1], a[2], a[3], a[4], a[5])),
    PRICE((x, a) -> x.price(a[0])),
    CUT((x, a) -> x.cut(a[0], a[1])),
    FETCH((x, a) -> x.fetch(a[0], a[1])),
    HAUL((x, a) -> x.haul(a[0], a[1])),
    STOP((x, a) -> x.stop(a[0])),
    MEND((x, a) -> x.mend(a[0])),
    TRAIN((x, a) -> x.train(a[0], a[1])),
    PASS((x, a) -> x.pass(a[0], a[1], a[2], a[3])),
    OF_FIELD((x, a) -> x.ofField(a[0], a[1])),
    OF_COMBINE((x, a) -> x.ofCombine(a[0], a[1])),
    OF_TRUCK((x, a) -> x.ofTruck(a[0], a[1])),
    OF_TICKET((x, a) -> x.ofTicket(a[0], a[1])),
    OWED((x, a) -> x.owed(a[0], a[1] == 1)),
    MANY((x, a) -> x.many(a[0])),
    READY_IN((x, a) -> x.readyIn(a[0], a[1], a[2])),
    NEXT_FIELD((x, a) -> x.nextField(a[0], a[1], a[2], a[3])),
    WAITING((x, a) -> x.waiting(a[0], a[1], a[2], a[3], a[4]));

    private interface Made {
        int on(WheatRun x, int[] arguments);
    }

    private final Made made;

    Face(Made made) {
        this.made = made;
    }

    int on(WheatRun x, int... arguments) {
        return made.on(x, arguments);
    }

    /** Whether it only asks, so that it changes nothing even where it answers. */
    boolean isQuestion() {
        return compareTo(OF_FIELD) >= 0;
    }

    /** How a message names the call. */
    String told(int... arguments) {
        StringBuilder text = new StringBuilder(name()).append('(');
        for (int i = 0; i < arguments.length; i++) {
            text.append(i == 0 ? "" : ", ").append(arguments[i]);
        }
        return text.append(')').toString();
    }
}
