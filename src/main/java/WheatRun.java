import java.util.ArrayList;

/**
 * Crews that follow the ripening: fields ripen, combines cut them, trucks haul, elevators take, and
 * tickets tell what is owed to whom. Words in capitals are the document's terms.
 */
public final class WheatRun {
    private static final int NONE = -1;
    private static final int FARMERS = 4;
    private static final int MOST_FIELDS = 8;
    private static final int MOST_COMBINES = 4;
    private static final int MOST_TRUCKS = 4;
    private static final int MOST_ELEVATORS = 3;
    private static final int FARTHEST_MILE = 300;
    private static final int DRIEST = 5;
    private static final int DAMPEST = 40;
    private static final int MOST_ROOM = 9999;
    private static final int TANK_ROOM = 400;
    private static final int TRUCK_ROOM = 800;
    private static final int DAY = 24;
    private static final int LAST_HOUR = 2400;
    private static final int LONGEST_PASS = 48;
    private static final int LONGEST_LOOK = 96;

    private final Land land;
    /** What is asked of the hours ahead is played through in these rows, which each question uses again. */
    private final Land trial;
    private final Field trialField;

    public WheatRun() {
        land = new Land(false);
        trial = new Land(true);
        trialField = new Field(0, 0, 0, 0, 0);
    }

    // ---- what is told

    public int field(int farmer, int mile, int acres, int bushels, int share)
            throws IndexOutOfBoundsException, IllegalArgumentException, IllegalStateException {
        if (isOutside(farmer, 0, FARMERS - 1)) {
            throw new IndexOutOfBoundsException("no such FARMER");
        }
        if (isOutside(mile, 0, FARTHEST_MILE) || isOutside(acres, 1, 200)
                || isOutside(bushels, 10, 90) || isOutside(share, 0, 50)) {
            throw new IllegalArgumentException("MILE, ACRES, YIELD or SHARE out of range");
        }
        if (land.fields.size() >= MOST_FIELDS) {
            throw new IllegalStateException("all FIELDS are told");
        }
        land.fields.add(new Field(farmer, mile, acres, bushels, share));
        return land.fields.size() - 1;
    }

    public int crop(int field, int ripe, int damp)
            throws IndexOutOfBoundsException, IllegalArgumentException {
        Field told = land.fieldAt(field);
        if (told == null) {
            throw new IndexOutOfBoundsException("no such FIELD");
        }
        if (isOutside(ripe, 0, 100) || isOutside(damp, DRIEST, DAMPEST)) {
            throw new IllegalArgumentException("RIPE or DAMP out of range");
        }
        int before = told.ripe;
        told.ripe = ripe;
        told.damp = damp;
        return before;
    }

    public int combine(int mile, int pace) throws IllegalArgumentException, IllegalStateException {
        if (isOutside(mile, 0, FARTHEST_MILE) || isOutside(pace, 1, 20)) {
            throw new IllegalArgumentException("MILE or PACE out of range");
        }
        if (land.combines.size() >= MOST_COMBINES) {
            throw new IllegalStateException("all COMBINES are told");
        }
        land.combines.add(new Combine(land.combines.size(), mile, pace));
        return land.combines.size() - 1;
    }

    public int truck(int mile) throws IllegalArgumentException, IllegalStateException {
        if (isOutside(mile, 0, FARTHEST_MILE)) {
            throw new IllegalArgumentException("MILE out of range");
        }
        if (land.trucks.size() >= MOST_TRUCKS) {
            throw new IllegalStateException("all TRUCKS are told");
        }
        land.trucks.add(new Truck(mile));
        return land.trucks.size() - 1;
    }

    public int elevator(int mile, int room, int from, int to, int least, int greatest)
            throws IllegalArgumentException, IllegalStateException {
        if (isOutside(mile, 0, FARTHEST_MILE) || isOutside(room, 0, MOST_ROOM)) {
            throw new IllegalArgumentException("MILE or ROOM out of range");
        }
        if (isOutside(from, 0, DAY - 1) || isOutside(to, 0, DAY - 1) || from == to) {
            throw new IllegalArgumentException("opening hours out of range, or the same");
        }
        if (isOutside(least, DRIEST, DAMPEST) || isOutside(greatest, least, DAMPEST)) {
            throw new IllegalArgumentException("LEAST or GREATEST out of range");
        }
        if (land.elevators.size() >= MOST_ELEVATORS) {
            throw new IllegalStateException("all ELEVATORS are told");
        }
        land.elevators.add(new Elevator(mile, room, from, to, least, greatest));
        return land.elevators.size() - 1;
    }

    public int price(int price) throws IllegalArgumentException {
        if (isOutside(price, 1, 999)) {
            throw new IllegalArgumentException("PRICE out of range");
        }
        int before = land.price;
        land.price = price;
        return before;
    }

    // ---- what is done

    public int cut(int combine, int field) throws IndexOutOfBoundsException {
        Combine sent = land.combineAt(combine);
        if (sent == null) {
            throw new IndexOutOfBoundsException("no such COMBINE");
        }
        if (field != NONE && land.fieldAt(field) == null) {
            throw new IndexOutOfBoundsException("no such FIELD");
        }
        sent.goal = field;
        return field == NONE ? 0 : land.combinesSentTo(field);
    }

    public int fetch(int truck, int combine) throws IndexOutOfBoundsException {
        Truck sent = land.truckAt(truck);
        if (sent == null) {
            throw new IndexOutOfBoundsException("no such TRUCK");
        }
        Combine place = land.combineAt(combine);
        if (place == null) {
            throw new IndexOutOfBoundsException("no such COMBINE");
        }
        sent.toCombine = combine;
        sent.toElevator = NONE;
        return Math.abs(place.mile - sent.mile);
    }

    public int haul(int truck, int elevator) throws IndexOutOfBoundsException {
        Truck sent = land.truckAt(truck);
        if (sent == null) {
            throw new IndexOutOfBoundsException("no such TRUCK");
        }
        Elevator place = land.elevatorAt(elevator);
        if (place == null) {
            throw new IndexOutOfBoundsException("no such ELEVATOR");
        }
        sent.toCombine = NONE;
        sent.toElevator = elevator;
        return Math.abs(place.mile - sent.mile);
    }

    public int stop(int truck) throws IndexOutOfBoundsException {
        Truck stopped = land.truckAt(truck);
        if (stopped == null) {
            throw new IndexOutOfBoundsException("no such TRUCK");
        }
        stopped.toCombine = NONE;
        stopped.toElevator = NONE;
        return stopped.hours;
    }

    public int mend(int combine) throws IndexOutOfBoundsException, IllegalStateException {
        Combine worn = land.combineAt(combine);
        if (worn == null) {
            throw new IndexOutOfBoundsException("no such COMBINE");
        }
        int cost = worn.wear * 3;
        if (land.money < cost) {
            throw new IllegalStateException("not so much MONEY");
        }
        land.money -= cost;
        worn.wear = 0;
        worn.isBroken = false;
        return cost;
    }

    public int train(int elevator, int bushels)
            throws IndexOutOfBoundsException, IllegalArgumentException {
        Elevator emptied = land.elevatorAt(elevator);
        if (emptied == null) {
            throw new IndexOutOfBoundsException("no such ELEVATOR");
        }
        if (isOutside(bushels, 1, MOST_ROOM)) {
            throw new IllegalArgumentException("bushels out of range");
        }
        emptied.room = Math.min(emptied.room + bushels, MOST_ROOM);
        return emptied.room;
    }

    public int pass(int hours, int warmth, int air, int rain)
            throws IllegalArgumentException, IllegalStateException {
        if (isNoForecast(hours, warmth, air, rain)) {
            throw new IllegalArgumentException("hours, WARMTH, AIR or RAIN out of range");
        }
        if (land.now + hours > LAST_HOUR) {
            throw new IllegalStateException("NOW would be too late");
        }
        int before = land.tickets.size();
        for (int hour = 0; hour < hours; hour++) {
            land.passHour(warmth, air, rain);
        }
        return land.tickets.size() - before;
    }

    // ---- what one asks

    public int ofField(int field, int what)
            throws IndexOutOfBoundsException, IllegalArgumentException {
        Field asked = land.fieldAt(field);
        if (asked == null) {
            throw new IndexOutOfBoundsException("no such FIELD");
        }
        if (isOutside(what, 0, 11)) {
            throw new IllegalArgumentException("no such question");
        }
        switch (what) {
            case 0: return asked.farmer;
            case 1: return asked.mile;
            case 2: return asked.acres;
            case 3: return asked.acresCut;
            case 4: return asked.ripe;
            case 5: return asked.damp;
            case 6: return asked.lost;
            case 7: return asked.map;
            case 8: return asked.sold;
            case 9: return land.onTheWay(field);
            case 10: return asked.correction(land.onTheWay(field));
            default: return land.combinesSentTo(field);
        }
    }

    public int ofCombine(int combine, int what)
            throws IndexOutOfBoundsException, IllegalArgumentException {
        Combine asked = land.combineAt(combine);
        if (asked == null) {
            throw new IndexOutOfBoundsException("no such COMBINE");
        }
        if (isOutside(what, 0, 7)) {
            throw new IllegalArgumentException("no such question");
        }
        switch (what) {
            case 0: return asked.mile;
            case 1: return asked.tank;
            case 2: return asked.tank > 0 ? asked.tankField : NONE;
            case 3: return asked.wear;
            case 4: return asked.isBroken ? 1 : 0;
            case 5: return asked.goal;
            case 6: return asked.acresCut;
            default: return asked.idle;
        }
    }

    public int ofTruck(int truck, int what)
            throws IndexOutOfBoundsException, IllegalArgumentException {
        Truck asked = land.truckAt(truck);
        if (asked == null) {
            throw new IndexOutOfBoundsException("no such TRUCK");
        }
        if (isOutside(what, 0, 7)) {
            throw new IllegalArgumentException("no such question");
        }
        switch (what) {
            case 0: return asked.mile;
            case 1: return asked.load;
            case 2: return asked.load > 0 ? asked.loadField : NONE;
            case 3: return asked.load > 0 ? asked.damp : 0;
            case 4: return asked.hours;
            case 5: return asked.rest;
            case 6: return asked.queued;
            default: return asked.driven;
        }
    }

    public int ofTicket(int ticket, int what)
            throws IndexOutOfBoundsException, IllegalArgumentException {
        Ticket asked = land.ticketAt(ticket);
        if (asked == null) {
            throw new IndexOutOfBoundsException("no such TICKET");
        }
        if (isOutside(what, 0, 6)) {
            throw new IllegalArgumentException("no such question");
        }
        switch (what) {
            case 0: return asked.field;
            case 1: return asked.bushels;
            case 2: return asked.damp;
            case 3: return asked.discount;
            case 4: return asked.elevator;
            case 5: return asked.hour;
            default: return asked.worth;
        }
    }

    public int owed(int farmer, boolean isLandlord) throws IndexOutOfBoundsException {
        if (isOutside(farmer, 0, FARMERS - 1)) {
            throw new IndexOutOfBoundsException("no such FARMER");
        }
        int sum = 0;
        for (int i = 0; i < land.fields.size(); i++) {
            Field his = land.fields.get(i);
            if (his.farmer == farmer) {
                sum += isLandlord ? his.forLandlord : his.forFarmer;
            }
        }
        return sum;
    }

    public int many(int what) throws IllegalArgumentException {
        if (isOutside(what, 0, 12)) {
            throw new IllegalArgumentException("no such question");
        }
        switch (what) {
            case 0: return land.now;
            case 1: return land.fields.size();
            case 2: return land.uncutAcres();
            case 3: return land.combines.size();
            case 4: return land.brokenCombines();
            case 5: return land.trucks.size();
            case 6: return land.elevators.size();
            case 7: return land.tickets.size();
            case 8: return land.money;
            case 9: return land.allRoom();
            case 10: return land.allOnTheWay();
            case 11: return land.allIdle();
            default: return land.allQueued();
        }
    }

    public double meanDamp() {
        int acres = land.uncutAcres();
        if (acres == 0) {
            return 0;
        }
        int weighed = 0;
        for (int i = 0; i < land.fields.size(); i++) {
            Field one = land.fields.get(i);
            weighed += one.damp * one.uncut();
        }
        return (double) weighed / (double) acres;
    }

    // ---- what would be (nothing is changed)

    public int readyIn(int field, int warmth, int air)
            throws IndexOutOfBoundsException, IllegalArgumentException {
        Field asked = land.fieldAt(field);
        if (asked == null) {
            throw new IndexOutOfBoundsException("no such FIELD");
        }
        if (isNoWeather(warmth, air, 0)) {
            throw new IllegalArgumentException("WARMTH or AIR out of range");
        }
        trialField.copyFrom(asked);
        if (trialField.isFit(land.clock())) {
            return 0;
        }
        for (int hour = 1; hour <= LONGEST_LOOK; hour++) {
            int clock = (land.now + hour) % DAY;
            trialField.passHour(clock, warmth, air, 0);
            if (trialField.isFit(clock)) {
                return hour;
            }
        }
        return NONE;
    }

    public int nextField(int combine, int hours, int warmth, int air)
            throws IndexOutOfBoundsException, IllegalArgumentException {
        Combine asked = land.combineAt(combine);
        if (asked == null) {
            throw new IndexOutOfBoundsException("no such COMBINE");
        }
        if (isNoForecast(hours, warmth, air, 0)) {
            throw new IllegalArgumentException("hours, WARMTH or AIR out of range");
        }
        int best = NONE;
        int most = 0;
        for (int i = 0; i < land.fields.size(); i++) {
            if (land.fields.get(i).uncut() > 0) {
                int bushels = bushelsIfSent(combine, i, hours, warmth, air);
                boolean isKept = bushels == most && bushels > 0 && i == asked.goal;
                if (bushels > most || isKept) {
                    best = i;
                    most = bushels;
                }
            }
        }
        return best;
    }

    public int waiting(int field, int hours, int warmth, int air, int rain)
            throws IndexOutOfBoundsException, IllegalArgumentException {
        Field asked = land.fieldAt(field);
        if (asked == null) {
            throw new IndexOutOfBoundsException("no such FIELD");
        }
        if (isNoForecast(hours, warmth, air, rain)) {
            throw new IllegalArgumentException("hours, WARMTH, AIR or RAIN out of range");
        }
        trialField.copyFrom(asked);
        for (int hour = 1; hour <= hours; hour++) {
            trialField.passHour((land.now + hour) % DAY, warmth, air, rain);
        }
        return asked.uncut() * (asked.brings() - trialField.brings());
    }

    public long digest() {
        long d = 7812;
        for (int what = 0; what <= 12; what++) {
            d = d * 31 + many(what);
        }
        for (int i = 0; i < land.fields.size(); i++) {
            for (int what = 0; what <= 11; what++) {
                d = d * 31 + ofField(i, what);
            }
            d = d * 31 + readyIn(i, 25, 40);
            d = d * 31 + waiting(i, 24, 30, 20, 0);
        }
        for (int i = 0; i < land.combines.size(); i++) {
            for (int what = 0; what <= 7; what++) {
                d = d * 31 + ofCombine(i, what);
            }
            d = d * 31 + nextField(i, 12, 30, 40);
        }
        for (int i = 0; i < land.trucks.size(); i++) {
            for (int what = 0; what <= 7; what++) {
                d = d * 31 + ofTruck(i, what);
            }
        }
        for (int i = 0; i < land.tickets.size(); i++) {
            for (int what = 0; what <= 6; what++) {
                d = d * 31 + ofTicket(i, what);
            }
        }
        for (int i = 0; i < FARMERS; i++) {
            d = d * 31 + owed(i, false);
            d = d * 31 + owed(i, true);
        }
        return d;
    }

    // ---- helpers of the calls

    private static boolean isOutside(int value, int least, int greatest) {
        return value < least || value > greatest;
    }

    private static boolean isNoWeather(int warmth, int air, int rain) {
        return isOutside(warmth, 0, 45) || isOutside(air, 0, 100) || isOutside(rain, 0, 20);
    }

    private static boolean isNoForecast(int hours, int warmth, int air, int rain) {
        return isOutside(hours, 1, LONGEST_PASS) || isNoWeather(warmth, air, rain);
    }

    private static int towards(int from, int to, int step) {
        return to > from ? Math.min(from + step, to) : Math.max(from - step, to);
    }

    private int bushelsIfSent(int combine, int field, int hours, int warmth, int air) {
        trial.copyFrom(land);
        Combine sent = trial.combineAt(combine);
        if (sent == null) {
            return 0;
        }
        int before = sent.bushelsCut;
        sent.goal = field;
        for (int hour = 0; hour < hours; hour++) {
            trial.passHour(warmth, air, 0);
        }
        return sent.bushelsCut - before;
    }

    /** A FIELD, with what its METERS and TICKETS told. */
    private static final class Field {
        int farmer;
        int mile;
        int acres;
        int bushels;
        int share;
        int acresCut;
        int ripe;
        int damp = 30;
        int lost;
        int map;
        int sold;
        int forFarmer;
        int forLandlord;

        Field(int farmer, int mile, int acres, int bushels, int share) {
            this.farmer = farmer;
            this.mile = mile;
            this.acres = acres;
            this.bushels = bushels;
            this.share = share;
        }

        void copyFrom(Field other) {
            farmer = other.farmer;
            mile = other.mile;
            acres = other.acres;
            bushels = other.bushels;
            share = other.share;
            acresCut = other.acresCut;
            ripe = other.ripe;
            damp = other.damp;
            lost = other.lost;
            map = other.map;
            sold = other.sold;
            forFarmer = other.forFarmer;
            forLandlord = other.forLandlord;
        }

        /** The order matters: each step goes by what the steps ahead of it left. */
        void passHour(int clock, int warmth, int air, int rain) {
            ripen(warmth);
            soakOrDry(air, rain);
            shatter(clock, rain);
        }

        private void ripen(int warmth) {
            int more = warmth >= 30 ? 2 : warmth >= 15 ? 1 : 0;
            ripe = Math.min(ripe + more, 100);
        }

        private void soakOrDry(int air, int rain) {
            if (rain > 0) {
                damp = Math.min(damp + rain, DAMPEST);
            } else if (ripe >= 60) {
                if (damp < air / 4) {
                    damp++;
                } else if (damp > air / 4) {
                    damp = Math.max(damp - 1, DRIEST);
                }
            }
        }

        private void shatter(int clock, int rain) {
            if (ripe < 100) {
                return;
            }
            if (clock >= 12 && clock <= 17 && damp < 14) {
                lost++;
            }
            if (rain >= 10) {
                lost += 5;
            }
            lost = Math.min(lost, 100);
        }

        boolean isFit(int clock) {
            return ripe >= 80 && damp < 20 && clock >= 8;
        }

        int uncut() {
            return acres - acresCut;
        }

        /** What an acre BRINGS. */
        int brings() {
            return bushels * (100 - lost) / 100;
        }

        int correction(int onTheWay) {
            return map == 0 || onTheWay > 0 ? NONE : sold * 1000 / map;
        }

        void credit(int bushelsSold, int worth) {
            int landlords = worth * share / 100;
            sold += bushelsSold;
            forLandlord += landlords;
            forFarmer += worth - landlords;
        }
    }

    /** A COMBINE; its goal is the number of the FIELD to which it is sent. */
    private static final class Combine {
        int number;
        int mile;
        int pace;
        int tank;
        int tankField = NONE;
        int tankDamp;
        int wear;
        boolean isBroken;
        int idle;
        int goal = NONE;
        int acresCut;
        int bushelsCut;

        Combine(int number, int mile, int pace) {
            this.number = number;
            this.mile = mile;
            this.pace = pace;
        }

        void copyFrom(Combine other) {
            number = other.number;
            mile = other.mile;
            pace = other.pace;
            tank = other.tank;
            tankField = other.tankField;
            tankDamp = other.tankDamp;
            wear = other.wear;
            isBroken = other.isBroken;
            idle = other.idle;
            goal = other.goal;
            acresCut = other.acresCut;
            bushelsCut = other.bushelsCut;
        }

        /** The field is that of the goal, or null without one. */
        void passHour(Field field, int clock, int rain) {
            if (isBroken || field == null) {
                return;
            }
            if (mile != field.mile) {
                mile = towards(mile, field.mile, 20);
                return;
            }
            int acres = acresAtOnce(field);
            if (rain > 0 || !field.isFit(clock) || holdsAnother() || acres == 0) {
                idle++;
            } else {
                harvest(field, acres);
            }
        }

        private boolean holdsAnother() {
            return tank > 0 && tankField != goal;
        }

        private int acresAtOnce(Field field) {
            int acres = Math.min(pace, field.uncut());
            int brings = field.brings();
            return brings > 0 ? Math.min(acres, (TANK_ROOM - tank) / brings) : acres;
        }

        private void harvest(Field field, int acres) {
            int bushels = acres * field.brings();
            field.acresCut += acres;
            field.map += metered(bushels);
            if (bushels > 0) {
                tankDamp = tank > 0 ? Math.max(tankDamp, field.damp) : field.damp;
                tankField = goal;
                tank += bushels;
            }
            acresCut += acres;
            bushelsCut += bushels;
            wear += acres;
            isBroken = wear >= 100;
        }

        /** Goes by the WEAR ahead of the hour, so it is asked before that grows. */
        private int metered(int bushels) {
            int drift = 3 * number + wear / 20 - 4;
            return bushels * (100 + drift) / 100;
        }
    }

    /** A TRUCK; without a place to go toCombine and toElevator are both NONE, otherwise one of them is. */
    private static final class Truck {
        int mile;
        int hours;
        int load;
        int loadField = NONE;
        int damp;
        int rest;
        int queued;
        int toCombine = NONE;
        int toElevator = NONE;
        int driven;

        Truck(int mile) {
            this.mile = mile;
        }

        void copyFrom(Truck other) {
            mile = other.mile;
            hours = other.hours;
            load = other.load;
            loadField = other.loadField;
            damp = other.damp;
            rest = other.rest;
            queued = other.queued;
            toCombine = other.toCombine;
            toElevator = other.toElevator;
            driven = other.driven;
        }

        boolean mustRest() {
            boolean hasPlace = toCombine != NONE || toElevator != NONE;
            return hours >= 10 || !hasPlace && hours > 0;
        }

        void sleepHour() {
            rest++;
            if (rest >= 8) {
                rest = 0;
                hours = 0;
            }
        }

        void drive(int goal) {
            int there = towards(mile, goal, 50);
            driven += Math.abs(there - mile);
            mile = there;
            hours++;
            rest = 0;
        }

        void takeFrom(Combine combine) {
            if (load > 0 && loadField != combine.tankField) {
                return;
            }
            int taken = Math.min(combine.tank, TRUCK_ROOM - load);
            if (taken > 0) {
                damp = load > 0 ? Math.max(damp, combine.tankDamp) : combine.tankDamp;
                loadField = combine.tankField;
                load += taken;
                combine.tank -= taken;
            }
        }
    }

    /** An ELEVATOR. */
    private static final class Elevator {
        int mile;
        int room;
        int from;
        int to;
        int least;
        int greatest;

        Elevator(int mile, int room, int from, int to, int least, int greatest) {
            this.mile = mile;
            this.room = room;
            this.from = from;
            this.to = to;
            this.least = least;
            this.greatest = greatest;
        }

        void copyFrom(Elevator other) {
            mile = other.mile;
            room = other.room;
            from = other.from;
            to = other.to;
            least = other.least;
            greatest = other.greatest;
        }

        boolean takes(Truck truck, int clock) {
            return isOpen(clock) && greatest >= truck.damp && room >= truck.load;
        }

        private boolean isOpen(int clock) {
            return from < to ? clock >= from && clock < to : clock >= from || clock < to;
        }

        int discount(int damp) {
            return 2 * Math.max(damp - least, 0);
        }
    }

    /** A TICKET, as it was written. */
    private static final class Ticket {
        final int field;
        final int bushels;
        final int damp;
        final int discount;
        final int elevator;
        final int hour;
        final int worth;

        Ticket(Truck truck, int discount, int hour, int price) {
            this.field = truck.loadField;
            this.bushels = truck.load;
            this.damp = truck.damp;
            this.discount = discount;
            this.elevator = truck.toElevator;
            this.hour = hour;
            this.worth = truck.load * price * (100 - discount) / 10000;
        }
    }

    /** All that is told, and how an hour goes over it. */
    private static final class Land {
        final ArrayList<Field> fields = new ArrayList<Field>();
        final ArrayList<Combine> combines = new ArrayList<Combine>();
        final ArrayList<Truck> trucks = new ArrayList<Truck>();
        final ArrayList<Elevator> elevators = new ArrayList<Elevator>();
        final ArrayList<Ticket> tickets = new ArrayList<Ticket>();
        final boolean isTrial;
        int now;
        int price = 400;
        int money = 1000;

        Land(boolean isTrial) {
            this.isTrial = isTrial;
        }

        /** Tickets are not copied: nothing that is tried goes by those of the past. */
        void copyFrom(Land other) {
            now = other.now;
            price = other.price;
            money = other.money;
            addRowsAs(other);
            for (int i = 0; i < other.fields.size() && i < fields.size(); i++) {
                fields.get(i).copyFrom(other.fields.get(i));
            }
            for (int i = 0; i < other.combines.size() && i < combines.size(); i++) {
                combines.get(i).copyFrom(other.combines.get(i));
            }
            for (int i = 0; i < other.trucks.size() && i < trucks.size(); i++) {
                trucks.get(i).copyFrom(other.trucks.get(i));
            }
            for (int i = 0; i < other.elevators.size() && i < elevators.size(); i++) {
                elevators.get(i).copyFrom(other.elevators.get(i));
            }
        }

        private void addRowsAs(Land other) {
            for (int i = fields.size(); i < other.fields.size(); i++) {
                fields.add(new Field(0, 0, 0, 0, 0));
            }
            for (int i = combines.size(); i < other.combines.size(); i++) {
                combines.add(new Combine(0, 0, 0));
            }
            for (int i = trucks.size(); i < other.trucks.size(); i++) {
                trucks.add(new Truck(0));
            }
            for (int i = elevators.size(); i < other.elevators.size(); i++) {
                elevators.add(new Elevator(0, 0, 0, 0, 0, 0));
            }
        }

        Field fieldAt(int number) {
            return number >= 0 && number < fields.size() ? fields.get(number) : null;
        }

        Combine combineAt(int number) {
            return number >= 0 && number < combines.size() ? combines.get(number) : null;
        }

        Truck truckAt(int number) {
            return number >= 0 && number < trucks.size() ? trucks.get(number) : null;
        }

        Elevator elevatorAt(int number) {
            return number >= 0 && number < elevators.size() ? elevators.get(number) : null;
        }

        Ticket ticketAt(int number) {
            return number >= 0 && number < tickets.size() ? tickets.get(number) : null;
        }

        int clock() {
            return now % DAY;
        }

        void passHour(int warmth, int air, int rain) {
            now++;
            for (int i = 0; i < fields.size(); i++) {
                fields.get(i).passHour(clock(), warmth, air, rain);
            }
            for (int i = 0; i < combines.size(); i++) {
                Combine combine = combines.get(i);
                combine.passHour(fieldAt(combine.goal), clock(), rain);
            }
            for (int i = 0; i < trucks.size(); i++) {
                passTruckHour(trucks.get(i));
            }
        }

        private void passTruckHour(Truck truck) {
            Combine combine = combineAt(truck.toCombine);
            Elevator elevator = elevatorAt(truck.toElevator);
            if (truck.mustRest()) {
                truck.sleepHour();
            } else if (combine != null) {
                if (truck.mile != combine.mile) {
                    truck.drive(combine.mile);
                } else {
                    truck.takeFrom(combine);
                }
            } else if (elevator != null) {
                if (truck.mile != elevator.mile) {
                    truck.drive(elevator.mile);
                } else if (truck.load > 0) {
                    unload(truck, elevator);
                }
            }
        }

        private void unload(Truck truck, Elevator elevator) {
            if (!elevator.takes(truck, clock())) {
                truck.queued++;
                return;
            }
            elevator.room -= truck.load;
            // A trial makes no tickets: nobody asks for them, and each would be an object more.
            if (!isTrial) {
                writeTicket(truck, elevator);
            }
            truck.load = 0;
        }

        private void writeTicket(Truck truck, Elevator elevator) {
            Ticket ticket = new Ticket(truck, elevator.discount(truck.damp), now, price);
            tickets.add(ticket);
            money += 2 * (ticket.bushels / 10);
            Field field = fieldAt(ticket.field);
            if (field != null) {
                field.credit(ticket.bushels, ticket.worth);
            }
        }

        int combinesSentTo(int field) {
            int sum = 0;
            for (int i = 0; i < combines.size(); i++) {
                if (combines.get(i).goal == field) {
                    sum++;
                }
            }
            return sum;
        }

        /** Bushels of a FIELD in TANKS and on TRUCKS. */
        int onTheWay(int field) {
            int sum = 0;
            for (int i = 0; i < combines.size(); i++) {
                Combine combine = combines.get(i);
                sum += combine.tankField == field ? combine.tank : 0;
            }
            for (int i = 0; i < trucks.size(); i++) {
                Truck truck = trucks.get(i);
                sum += truck.loadField == field ? truck.load : 0;
            }
            return sum;
        }

        int allOnTheWay() {
            int sum = 0;
            for (int i = 0; i < combines.size(); i++) {
                sum += combines.get(i).tank;
            }
            for (int i = 0; i < trucks.size(); i++) {
                sum += trucks.get(i).load;
            }
            return sum;
        }

        int uncutAcres() {
            int sum = 0;
            for (int i = 0; i < fields.size(); i++) {
                sum += fields.get(i).uncut();
            }
            return sum;
        }

        int brokenCombines() {
            int sum = 0;
            for (int i = 0; i < combines.size(); i++) {
                sum += combines.get(i).isBroken ? 1 : 0;
            }
            return sum;
        }

        int allRoom() {
            int sum = 0;
            for (int i = 0; i < elevators.size(); i++) {
                sum += elevators.get(i).room;
            }
            return sum;
        }

        int allIdle() {
            int sum = 0;
            for (int i = 0; i < combines.size(); i++) {
                sum += combines.get(i).idle;
            }
            return sum;
        }

        int allQueued() {
            int sum = 0;
            for (int i = 0; i < trucks.size(); i++) {
                sum += trucks.get(i).queued;
            }
            return sum;
        }
    }
}
