import java.util.Arrays;

/**
 * A cold line: cars with ice in them over a row of stations, with loads that live by the heat of
 * their tiers, rules that fill and vent, markets, and claims. The document's promises say what
 * each call answers; README.md says how to use it.
 */
public final class ColdLine {
    public static final int NONE = -1;
    public static final int MISSING = -2;
    public static final int BEYOND = -3;
    public static final int BELOW = -4;
    public static final int KIND = -5;
    public static final int COPY = -6;
    public static final int NO = -7;
    public static final int FULL = -8;

    private static final int FIRST_LEG = 4;
    private static final int LONGEST_LEG = 12;
    private static final int MOST_STATIONS = 8;
    private static final int MOST_CARS = 10;
    private static final int MOST_RULES = 10;
    private static final int MOST_STOCK = 100000;
    private static final int MOST_STOCK_AT_ONCE = 10000;
    private static final int MOST_GANG = 100;
    private static final int MOST_ICE = 100;
    private static final int MOST_PRICE = 99;
    private static final int MOST_LATE = 48;
    private static final int MOST_LEAK = 40;
    private static final int MOST_LOSS = 999;
    private static final int MOST_BASKETS = 500;
    private static final int MOST_LIFE = 10000;
    private static final int MOST_RIPE = 99;
    private static final int MOST_HOURS_AT_ONCE = 200;
    private static final int LAST_RULE_HOUR = 100000;
    private static final int MOST_TOLD = 9999;
    private static final int LOWEST_HEAT = -400;
    private static final int HIGHEST_HEAT = 500;
    private static final int GAP = -9999;
    private static final int HEAT_WITHOUT_WEATHER = 150;
    private static final int WEATHER_HOURS = 48;
    private static final int MARKET_HOURS = 24;
    private static final int TIERS = 4;
    private static final int PARTS = 3;
    private static final int VENT_LEAK = 15;
    /* The longest way is 7 legs of 12 hours, with 49 hours at each station before them: 427. */
    private static final int LONGEST_WAY = 1000;
    /* The faults of a text begin here, beyond all refusals. */
    private static final int FIRST_FAULT = -10;
    private static final int[] FIRST_LOSSES = {1, 2, 3, 5, 8, 12, 18, 25, 35, 50};

    private final Station[] stations = new Station[MOST_STATIONS];
    private final Car[] cars = new Car[MOST_CARS];
    private final Rule[] rules = new Rule[MOST_RULES];
    private final Tape tape = new Tape();
    private final Row theRow = new Row();
    private final Ice ice = new Ice();
    private final int[] losses = FIRST_LOSSES.clone();
    private final int[] facts = new int[Rule.FIELDS];
    private final int[] refusals = new int[1 - FULL];
    /* What WORTH tries out happens to these two, so that nothing changes. */
    private final Car trialCar = new Car(NONE);
    private final Ice trialIce = new Ice();
    private int stationCount = 2;
    private int carCount = 0;
    private int ruleCount = 0;
    private int openHour = 0;
    private int soldCount = 0;
    private int broughtInAll = 0;

    public ColdLine() {
        for (int i = 0; i < MOST_STATIONS; i++) {
            stations[i] = new Station();
        }
        for (int i = 0; i < MOST_CARS; i++) {
            cars[i] = new Car(i);
        }
        for (int i = 0; i < MOST_RULES; i++) {
            rules[i] = new Rule();
        }
        stations[0].legBehind = FIRST_LEG;
    }

    // ---- the line

    public int station(int leg) {
        if (!within(leg, 1, LONGEST_LEG)) {
            return refuse(NO);
        }
        if (stationCount >= MOST_STATIONS) {
            return refuse(FULL);
        }
        stations[stationCount - 1].legBehind = leg;
        stationCount++;
        return stationCount;
    }

    public int stock(int station, int v) {
        if (!isStation(station)) {
            return refuse(BEYOND);
        }
        if (!within(v, -MOST_STOCK_AT_ONCE, MOST_STOCK_AT_ONCE)
                || !within(ice.stocks[station] + v, 0, MOST_STOCK)) {
            return refuse(NO);
        }
        ice.stocks[station] += v;
        return ice.stocks[station];
    }

    public int gang(int station, int v) {
        if (!isStation(station)) {
            return refuse(BEYOND);
        }
        if (!within(v, 0, MOST_GANG)) {
            return refuse(NO);
        }
        int before = stations[station].gang;
        stations[station].gang = v;
        return before;
    }

    public int price(int station, int v) {
        if (!isStation(station)) {
            return refuse(BEYOND);
        }
        if (!within(v, 0, MOST_PRICE)) {
            return refuse(NO);
        }
        int before = stations[station].price;
        stations[station].price = v;
        return before;
    }

    public int weather(int station, int hour, int v) {
        if (!isStation(station) || !within(hour, 0, WEATHER_HOURS - 1)) {
            return refuseByZero(BEYOND);
        }
        if (v != GAP && !isHeat(v)) {
            return refuseByZero(NO);
        }
        Station there = stations[station];
        int before = there.told[hour];
        there.told[hour] = v;
        there.closeGaps();
        return before;
    }

    public int read(int station) {
        if (!isStation(station)) {
            return refuse(BEYOND);
        }
        if (!theRow.isThere) {
            return refuse(MISSING);
        }
        Station there = stations[station];
        int known = 0;
        for (int hour = 0; hour < WEATHER_HOURS; hour++) {
            int v = theRow.numbers[hour];
            there.told[hour] = isHeat(v) ? v : GAP;
            known += isHeat(v) ? 1 : 0;
        }
        there.closeGaps();
        return known;
    }

    public int out(int station, int hour) {
        if (!isStation(station) || hour < 0) {
            return refuseByZero(BEYOND);
        }
        return stations[station].weatherIn(hour);
    }

    public int loss(int b, int v) {
        if (!within(b, 0, losses.length - 1)) {
            return refuse(BEYOND);
        }
        if (!within(v, 0, MOST_LOSS)) {
            return refuse(NO);
        }
        int before = losses[b];
        losses[b] = v;
        return before;
    }

    // ---- cars and loads

    public int car(int station, int leak, int heat) {
        if (!isStation(station)) {
            return refuse(BEYOND);
        }
        if (!within(leak, 1, MOST_LEAK) || !isHeat(heat)) {
            return refuse(NO);
        }
        if (carCount >= MOST_CARS) {
            return refuse(FULL);
        }
        cars[carCount].begin(station, leak, heat);
        carCount++;
        return carCount - 1;
    }

    public int load(int car, int told, int baskets, int life, int ripe, int heat) {
        int kind = told / 10;
        int tier = told % 10;
        if (!isCar(car) || told < 0 || tier >= TIERS) {
            return refuse(BEYOND);
        }
        if (kind > Tier.MIXED || !within(baskets, 1, MOST_BASKETS) || !within(life, 1, MOST_LIFE)) {
            return refuse(NO);
        }
        if (kind == Tier.FIRM && !within(ripe, 1, MOST_RIPE) || !isHeat(heat)) {
            return refuse(NO);
        }
        Tier place = cars[car].tiers[tier];
        if (cars[car].goes() || place.isLoaded()) {
            return refuse(NO);
        }
        place.heat = heat;
        place.putOn(kind, baskets, life, ripe);
        return baskets;
    }

    public int tier(int car, int tier, int what) {
        if (!isCar(car) || !within(tier, 0, TIERS - 1)) {
            return refuseByZero(BEYOND);
        }
        if (!within(what, 0, 4)) {
            return refuseByZero(NO);
        }
        Tier seen = cars[car].tiers[tier];
        if (what == 0) {
            return seen.heat;
        }
        return seen.isLoaded() ? seen.ofLoad(what) : NONE;
    }

    public int fill(int car, int v) {
        if (!isCar(car)) {
            return refuse(BEYOND);
        }
        Car filled = cars[car];
        if (filled.isOnLeg() || !within(v, 1, MOST_ICE) || filled.ice + v > MOST_ICE
                || ice.stocks[filled.station] < v) {
            return refuse(NO);
        }
        ice.putIn(filled, v);
        return filled.ice;
    }

    public int vent(int car, int open) {
        if (!isCar(car)) {
            return refuse(BEYOND);
        }
        if (!within(open, 0, 1)) {
            return refuse(NO);
        }
        int before = cars[car].vent;
        cars[car].vent = open;
        return before;
    }

    public int send(int car, int end) {
        if (!isCar(car) || !isStation(end)) {
            return refuse(BEYOND);
        }
        Car sent = cars[car];
        if (sent.goes() || !sent.canHeadFor(end)) {
            return refuse(NO);
        }
        sent.setOff(end, stations[sent.station].late);
        return hoursLeft(sent);
    }

    public int turn(int car, int end) {
        if (!isCar(car) || !isStation(end)) {
            return refuse(BEYOND);
        }
        Car turned = cars[car];
        if (!turned.goes() || !turned.canHeadFor(end)) {
            return refuse(NO);
        }
        turned.end = end;
        return hoursLeft(turned);
    }

    public int late(int station, int hours) {
        if (!isStation(station)) {
            return refuse(BEYOND);
        }
        if (!within(hours, 0, MOST_LATE)) {
            return refuse(NO);
        }
        int before = stations[station].late;
        stations[station].late = hours;
        return before;
    }

    public int look(int car, int what) {
        if (!isCar(car)) {
            return refuse(BEYOND);
        }
        Car seen = cars[car];
        switch (what) {
            case 0: return seen.station;
            case 1: return seen.end;
            case 2: return seen.hoursOfLeg;
            case 3: return seen.hoursToStand;
            case 4: return seen.ice;
            case 5: return seen.vent;
            case 6: return seen.shortInAll;
            case 7: return seen.hasCome ? 1 : 0;
            default: return refuse(NO);
        }
    }

    // ---- rules

    public int feed(int bytes, int n) {
        if (n < 0) {
            return refuse(BELOW);
        }
        if (n > 4) {
            return refuse(NO);
        }
        if (tape.length + n > Tape.MOST_BYTES) {
            return refuse(FULL);
        }
        for (int left = n - 1; left >= 0; left--) {
            tape.bytes[tape.length] = bytes >> (8 * left) & 255;
            tape.length++;
        }
        return tape.length;
    }

    public int wipe() {
        int before = tape.length;
        tape.length = 0;
        return before;
    }

    public int rule(int from, int to) {
        if (from < 0 || from >= to || to > LAST_RULE_HOUR) {
            return refuse(NO);
        }
        if (ruleCount >= MOST_RULES) {
            return refuse(FULL);
        }
        // A text with a fault may leave something in a rule that isn't counted, which is harmless.
        Rule next = rules[ruleCount];
        int fault = tape.readRule(next);
        if (fault != NONE) {
            return FIRST_FAULT - fault;
        }
        next.from = from;
        next.to = to;
        tape.length = 0;
        ruleCount++;
        return ruleCount - 1;
    }

    // ---- hours, markets

    public int run(int n) {
        if (n < 0) {
            return refuse(BELOW);
        }
        if (!within(n, 1, MOST_HOURS_AT_ONCE)) {
            return refuse(NO);
        }
        int came = 0;
        for (int i = 0; i < n; i++) {
            ice.beginHour();
            for (int c = 0; c < carCount; c++) {
                came += passHour(cars[c], ice, openHour) ? 1 : 0;
            }
            openHour++;
        }
        return came;
    }

    public int sell(int car) {
        if (!isCar(car)) {
            return refuse(BEYOND);
        }
        Car sold = cars[car];
        Station market = stations[sold.station];
        if (!sold.hasCome || market.price == 0) {
            return refuse(NO);
        }
        int brought = market.bringsNow(sold, openHour);
        market.noteSale(openHour);
        sold.unload();
        sold.hasCome = false;
        soldCount++;
        broughtInAll += brought;
        return brought;
    }

    public int worth(int car, int end) {
        if (!isCar(car) || !isStation(end)) {
            return refuse(BEYOND);
        }
        if (!couldSellAt(cars[car], end)) {
            return refuse(NO);
        }
        return tryOut(cars[car], end);
    }

    public int best(int car) {
        if (!isCar(car)) {
            return refuse(BEYOND);
        }
        int bestEnd = NONE;
        int most = NONE;
        for (int end = 0; end < stationCount; end++) {
            if (couldSellAt(cars[car], end)) {
                int brings = tryOut(cars[car], end);
                if (brings > most) {
                    most = brings;
                    bestEnd = end;
                }
            }
        }
        return bestEnd;
    }

    public int claim(int car, int part) {
        if (!isCar(car)) {
            return refuse(BEYOND);
        }
        if (!within(part, 0, PARTS - 1)) {
            return refuse(NO);
        }
        return cars[car].claims[part];
    }

    public int count(int what) {
        switch (what) {
            case 0: return openHour;
            case 1: return stationCount;
            case 2: return carCount;
            case 3: return ruleCount;
            case 4: return tape.length;
            case 5: return ice.putInAll;
            case 6: return ice.usedInAll;
            case 7: return soldCount;
            case 8: return broughtInAll;
            default: return refuse(NO);
        }
    }

    public int at(int station, int what) {
        if (!isStation(station)) {
            return refuse(BEYOND);
        }
        Station seen = stations[station];
        switch (what) {
            case 0: return ice.stocks[station];
            case 1: return seen.gang;
            case 2: return seen.price;
            case 3: return seen.late;
            case 4: return seen.legBehind;
            default: return refuse(NO);
        }
    }

    // ---- rows

    public int tell(int i, int v) {
        if (!within(i, 0, WEATHER_HOURS - 1)) {
            return refuse(BEYOND);
        }
        if (!within(v, -MOST_TOLD, MOST_TOLD)) {
            return refuse(NO);
        }
        theRow.put(i, v);
        return 1;
    }

    public int tear() {
        int before = theRow.isThere ? 1 : 0;
        theRow.isThere = false;
        return before;
    }

    public int row(int i) {
        if (!theRow.isThere) {
            return refuseByZero(MISSING);
        }
        if (!within(i, 0, WEATHER_HOURS - 1)) {
            return refuseByZero(BEYOND);
        }
        return theRow.numbers[i];
    }

    public int copy(int i, int j, int n) {
        if (!theRow.isThere) {
            return refuse(MISSING);
        }
        if (n < 0) {
            return refuse(BELOW);
        }
        // 48 - n can't wrap around, as i + n could.
        if (!within(i, 0, WEATHER_HOURS - n) || !within(j, 0, WEATHER_HOURS - n)) {
            return refuse(COPY);
        }
        System.arraycopy(theRow.numbers, i, theRow.numbers, j, n);
        return n;
    }

    public int status(int by) {
        if (!within(by, FULL, MISSING)) {
            return refuse(NO);
        }
        return refusals[-by];
    }

    // ---- what the calls share

    private int refuse(int by) {
        if (within(by, FULL, MISSING)) {
            refusals[-by]++;
        }
        return by;
    }

    private int refuseByZero(int by) {
        refuse(by);
        return 0;
    }

    private boolean isStation(int number) {
        return number >= 0 && number < stationCount;
    }

    private boolean isCar(int number) {
        return number >= 0 && number < carCount;
    }

    private static boolean within(int v, int least, int most) {
        return v >= least && v <= most;
    }

    private static boolean isHeat(int v) {
        return within(v, LOWEST_HEAT, HIGHEST_HEAT);
    }

    private int legBetween(int station, int neighbour) {
        return stations[Math.min(station, neighbour)].legBehind;
    }

    private int hoursLeft(Car car) {
        int from = car.isOnLeg() ? car.nextStation() : car.station;
        int hours = car.hoursOfLeg;
        for (int s = Math.min(from, car.end); s < Math.max(from, car.end); s++) {
            hours += stations[s].legBehind;
        }
        return hours;
    }

    private int outsideOf(Car car, int hour) {
        int here = stations[car.station].weatherIn(hour);
        if (!car.isOnLeg()) {
            return here;
        }
        return (here + stations[car.nextStation()].weatherIn(hour)) / 2;
    }

    /** One hour of one car; whether it has come in it. */
    private boolean passHour(Car car, Ice from, int hour) {
        int outside = outsideOf(car, hour);
        if (!car.isOnLeg()) {
            obeyRules(car, from, hour, outside);
        }
        int used = car.useIce();
        from.usedInAll += used;
        car.addClaim(car.warmTiers(outside, used, losses));
        return car.goes() && moveOn(car);
    }

    private void obeyRules(Car car, Ice from, int hour, int outside) {
        facts[Rule.ICE] = car.ice;
        facts[Rule.HEAT] = car.greatestHeat();
        facts[Rule.OUT] = outside;
        facts[Rule.STATION] = car.station;
        facts[Rule.CAR] = car.number;
        int venting = lastThatHolds(true, hour);
        if (venting != NONE) {
            car.vent = venting == 0 ? 0 : 1;
        }
        int filling = lastThatHolds(false, hour);
        int wanted = Math.max(0, Math.min(filling, MOST_ICE) - car.ice);
        car.isShort = from.giveByGang(car, wanted, stations[car.station].gang) < wanted;
    }

    /** The NUMBER of the last rule of a key that holds for the facts, or NONE. */
    private int lastThatHolds(boolean vents, int hour) {
        for (int r = ruleCount - 1; r >= 0; r--) {
            Rule rule = rules[r];
            if (rule.vents == vents && rule.holds(facts, hour)) {
                return rule.number;
            }
        }
        return NONE;
    }

    /** The last step of an hour for a car that goes; whether it has come. */
    private boolean moveOn(Car car) {
        if (!car.isOnLeg()) {
            if (car.hoursToStand > 0) {
                car.hoursToStand--;
            } else {
                car.hoursOfLeg = legBetween(car.station, car.nextStation());
            }
            return false;
        }
        int next = car.nextStation();
        car.hoursOfLeg--;
        if (car.isOnLeg()) {
            return false;
        }
        car.station = next;
        if (next == car.end) {
            car.end = NONE;
            car.hasCome = true;
            return true;
        }
        car.hoursToStand = stations[next].late;
        return false;
    }

    private boolean couldSellAt(Car car, int end) {
        return stations[end].price > 0 && car.canHeadFor(end);
    }

    /** WORTH of a car for an end at which it could be sold. */
    private int tryOut(Car car, int end) {
        trialCar.becomeLike(car);
        trialIce.becomeLike(ice);
        if (trialCar.goes()) {
            trialCar.end = end;
        } else {
            trialCar.setOff(end, stations[trialCar.station].late);
        }
        boolean came = false;
        for (int h = 0; h < LONGEST_WAY && !came; h++) {
            trialIce.beginHour();
            came = passHour(trialCar, trialIce, openHour + h);
        }
        return stations[end].bringsNow(trialCar, openHour);
    }

    /** A station with its weather and its market; its stock is held by Ice. */
    private static final class Station {
        final int[] told = new int[WEATHER_HOURS];
        final int[] withoutGaps = new int[WEATHER_HOURS];
        /* Sales of the latest 24 hours: slot h % 24 counts those of the hour that it names. */
        final int[] saleHours = new int[MARKET_HOURS];
        final int[] saleCounts = new int[MARKET_HOURS];
        int gang = MOST_GANG;
        int price = 0;
        int late = 0;
        int legBehind = NONE;

        Station() {
            Arrays.fill(told, GAP);
            Arrays.fill(withoutGaps, HEAT_WITHOUT_WEATHER);
        }

        int weatherIn(int hour) {
            return withoutGaps[Math.floorMod(hour, WEATHER_HOURS)];
        }

        void closeGaps() {
            int latest = HEAT_WITHOUT_WEATHER;
            // The hours before hour 0 are those at the row's end.
            for (int h = 0; h < WEATHER_HOURS; h++) {
                latest = told[h] == GAP ? latest : told[h];
            }
            for (int h = 0; h < WEATHER_HOURS; h++) {
                latest = told[h] == GAP ? latest : told[h];
                withoutGaps[h] = latest;
            }
        }

        void noteSale(int hour) {
            int slot = Math.floorMod(hour, MARKET_HOURS);
            if (saleHours[slot] != hour) {
                saleHours[slot] = hour;
                saleCounts[slot] = 0;
            }
            saleCounts[slot]++;
        }

        private int salesOfLatestHours(int hour) {
            int sales = 0;
            for (int slot = 0; slot < MARKET_HOURS; slot++) {
                sales += saleHours[slot] > hour - MARKET_HOURS ? saleCounts[slot] : 0;
            }
            return sales;
        }

        int bringsNow(Car car, int hour) {
            int sum = car.priceOfLoads(price);
            int less = Math.min(100, 5 * salesOfLatestHours(hour));
            return sum - sum * less / 100;
        }
    }

    /** The stocks of all stations, what their gangs have put in, and the sums. */
    private static final class Ice {
        final int[] stocks = new int[MOST_STATIONS];
        final int[] putInThisHour = new int[MOST_STATIONS];
        int putInAll = 0;
        int usedInAll = 0;

        void beginHour() {
            Arrays.fill(putInThisHour, 0);
        }

        void putIn(Car car, int v) {
            stocks[car.station] -= v;
            car.ice += v;
            putInAll += v;
        }

        /** How much of what is wanted is put in; the rest is short. */
        int giveByGang(Car car, int wanted, int gang) {
            int free = gang - putInThisHour[car.station];
            int given = Math.min(wanted, Math.min(stocks[car.station], free));
            putInThisHour[car.station] += given;
            putIn(car, given);
            car.shortInAll += wanted - given;
            return given;
        }

        void becomeLike(Ice other) {
            System.arraycopy(other.stocks, 0, stocks, 0, MOST_STATIONS);
        }
    }

    /** A car; the tiers of one that isn't used yet stand empty. */
    private static final class Car {
        final Tier[] tiers = new Tier[TIERS];
        final int[] claims = new int[PARTS];
        int number;
        int leak = 1;
        int ice = 0;
        int vent = 0;
        int station = 0;
        int end = NONE;
        int hoursOfLeg = 0;
        int hoursToStand = 0;
        int shortInAll = 0;
        /* Whether ice was short in the latest hour in which it was at a station. */
        boolean isShort = false;
        boolean hasCome = false;
        boolean wasSent = false;

        Car(int number) {
            this.number = number;
            for (int t = 0; t < TIERS; t++) {
                tiers[t] = new Tier();
            }
        }

        void begin(int where, int itsLeak, int heat) {
            station = where;
            leak = itsLeak;
            for (int t = 0; t < TIERS; t++) {
                tiers[t].heat = heat;
            }
        }

        boolean goes() {
            return end != NONE;
        }

        boolean isOnLeg() {
            return hoursOfLeg > 0;
        }

        /** The neighbour towards its end, for a car that goes. */
        int nextStation() {
            return end > station ? station + 1 : station - 1;
        }

        boolean canHeadFor(int newEnd) {
            if (isOnLeg() && end > station) {
                return newEnd > station;
            }
            if (isOnLeg()) {
                return newEnd < station;
            }
            return newEnd != station;
        }

        void setOff(int newEnd, int late) {
            end = newEnd;
            hoursToStand = late;
            hasCome = false;
            wasSent = true;
            Arrays.fill(claims, 0);
        }

        int greatestHeat() {
            int greatest = tiers[0].heat;
            for (int t = 1; t < TIERS; t++) {
                greatest = Math.max(greatest, tiers[t].heat);
            }
            return greatest;
        }

        /** The ice that one hour uses is gone: how much it was. */
        int useIce() {
            int sum = 0;
            for (int t = 0; t < TIERS; t++) {
                sum += Math.max(0, tiers[t].heat);
            }
            int used = Math.min(ice, sum / 100);
            ice -= used;
            return used;
        }

        /** All tiers get the heat of the hour, and loads live it: life lost, times baskets. */
        int warmTiers(int outside, int used, int[] losses) {
            int rate = leak + (vent == 0 ? 0 : VENT_LEAK);
            int lost = 0;
            for (int t = 0; t < TIERS; t++) {
                Tier tier = tiers[t];
                tier.heat += (outside - tier.heat) * rate / 100;
                tier.heat -= used * (TIERS - t) / 2;
                lost += tier.liveHour(losses);
            }
            return lost;
        }

        void addClaim(int lost) {
            if (!wasSent) {
                return;
            }
            int part = 2;
            if (isShort) {
                part = 0;
            } else if (hoursToStand > 0) {
                // Only a car at a station has to stand.
                part = 1;
            }
            claims[part] += lost / 1000;
        }

        int priceOfLoads(int price) {
            int sum = 0;
            for (int t = 0; t < TIERS; t++) {
                sum += tiers[t].baskets * tiers[t].life * price / 1000;
            }
            return sum;
        }

        void unload() {
            for (int t = 0; t < TIERS; t++) {
                tiers[t].takeOff();
            }
        }

        /** Takes what the hours to come depend on; claims and sums are not asked of a trial. */
        void becomeLike(Car other) {
            number = other.number;
            leak = other.leak;
            ice = other.ice;
            vent = other.vent;
            station = other.station;
            end = other.end;
            hoursOfLeg = other.hoursOfLeg;
            hoursToStand = other.hoursToStand;
            for (int t = 0; t < TIERS; t++) {
                tiers[t].becomeLike(other.tiers[t]);
            }
        }
    }

    /** A tier with its heat, and its load if it has one; without one, baskets and life are 0. */
    private static final class Tier {
        static final int SOFT = 1;
        static final int FIRM = 2;
        static final int WET = 3;
        static final int MIXED = 4;
        static final int RIPENING_HEAT = 100;
        static final int COOLER_BY_WET = 60;
        static final int BAND = 50;

        int heat = 0;
        int kind = NONE;
        int baskets = 0;
        int life = 0;
        int ripe = 0;
        /* Of MIXED: whether the next hour takes once what an hour takes, not twice. */
        boolean isOnceNext = false;

        boolean isLoaded() {
            return kind != NONE;
        }

        void putOn(int newKind, int newBaskets, int newLife, int newRipe) {
            kind = newKind;
            baskets = newBaskets;
            life = newLife;
            ripe = newKind == FIRM ? newRipe : NONE;
            isOnceNext = false;
        }

        void takeOff() {
            kind = NONE;
            baskets = 0;
            life = 0;
        }

        int ofLoad(int what) {
            switch (what) {
                case 1: return kind;
                case 2: return baskets;
                case 3: return life;
                default: return ripe;
            }
        }

        /** The load, if there is one, lives an hour with the heat: life lost, times baskets. */
        int liveHour(int[] losses) {
            if (!isLoaded()) {
                return 0;
            }
            int lost = Math.min(life, lossOfHour(losses));
            life -= lost;
            return lost * baskets;
        }

        private int lossOfHour(int[] losses) {
            switch (kind) {
                case SOFT:
                    return 2 * lossAt(heat, losses);
                case FIRM:
                    return ripen() ? 0 : lossAt(heat, losses);
                case WET:
                    return lossAt(heat - COOLER_BY_WET, losses);
                case MIXED:
                    isOnceNext = !isOnceNext;
                    return (isOnceNext ? 2 : 1) * lossAt(heat, losses);
                default:
                    return lossAt(heat, losses);
            }
        }

        /** Whether a ripe hour was left when this hour began. */
        private boolean ripen() {
            if (ripe <= 0) {
                return false;
            }
            if (heat >= RIPENING_HEAT) {
                ripe--;
            }
            return true;
        }

        private static int lossAt(int heat, int[] losses) {
            return losses[Math.max(0, Math.min(losses.length - 1, heat / BAND))];
        }

        void becomeLike(Tier other) {
            heat = other.heat;
            kind = other.kind;
            baskets = other.baskets;
            life = other.life;
            ripe = other.ripe;
            isOnceNext = other.isOnceNext;
        }
    }

    private static final class Rule {
        static final int MOST_TESTS = 3;
        static final int FIELDS = 5;
        static final int ICE = 0;
        static final int HEAT = 1;
        static final int OUT = 2;
        static final int STATION = 3;
        static final int CAR = 4;

        final int[] fields = new int[MOST_TESTS];
        final int[] signs = new int[MOST_TESTS];
        final int[] bounds = new int[MOST_TESTS];
        boolean vents = false;
        int number = 0;
        int tests = 0;
        int from = 0;
        int to = 0;

        boolean holds(int[] facts, int hour) {
            if (hour < from || hour >= to) {
                return false;
            }
            for (int t = 0; t < tests; t++) {
                if (!isSo(facts[fields[t]], signs[t], bounds[t])) {
                    return false;
                }
            }
            return true;
        }

        private static boolean isSo(int v, int sign, int bound) {
            switch (sign) {
                case '<': return v < bound;
                case '>': return v > bound;
                default: return v == bound;
            }
        }
    }

    /** The tape, and how a rule is read from it: `place` always is the first byte not taken. */
    private static final class Tape {
        static final int MOST_BYTES = 80;
        static final int MOST_DIGITS = 3;

        final int[] bytes = new int[MOST_BYTES];
        int length = 0;
        private int place = 0;

        /** NONE if the whole tape is a rule, else the place of the fault. */
        int readRule(Rule rule) {
            place = 0;
            rule.tests = 0;
            if (!takeHead(rule)) {
                return place;
            }
            for (int t = 0; t < Rule.MOST_TESTS && place < length; t++) {
                if (!takeWord(t == 0 ? " if " : " and ") || !takeTest(rule)) {
                    return place;
                }
            }
            return place < length ? place : NONE;
        }

        private boolean takeHead(Rule rule) {
            rule.vents = nextByte() == 'v';
            if (!takeWord(rule.vents ? "vent " : "fill ")) {
                return false;
            }
            rule.number = takeNumber();
            return rule.number != NONE;
        }

        private boolean takeTest(Rule rule) {
            int field = fieldThatBegins(nextByte());
            if (field == NONE || !takeWord(wordOf(field))) {
                return false;
            }
            int sign = nextByte();
            if (sign != '=' && sign != '<' && sign != '>') {
                return false;
            }
            place++;
            boolean isNegative = nextByte() == '-';
            place += isNegative ? 1 : 0;
            int number = takeNumber();
            if (number == NONE) {
                return false;
            }
            rule.fields[rule.tests] = field;
            rule.signs[rule.tests] = sign;
            rule.bounds[rule.tests] = isNegative ? -number : number;
            rule.tests++;
            return true;
        }

        /** The byte at the place, or NONE at the end. */
        private int nextByte() {
            return place < length ? bytes[place] : NONE;
        }

        private boolean takeWord(String word) {
            for (int i = 0; i < word.length(); i++) {
                if (nextByte() != word.charAt(i)) {
                    return false;
                }
                place++;
            }
            return true;
        }

        /** The number of up to three digits at the place, or NONE. */
        private int takeNumber() {
            int number = NONE;
            for (int i = 0; i < MOST_DIGITS && isDigit(nextByte()); i++) {
                number = Math.max(0, number) * 10 + (nextByte() - '0');
                place++;
            }
            return number;
        }

        private static boolean isDigit(int b) {
            return b >= '0' && b <= '9';
        }

        /* The first letter tells the fields apart. */
        private static int fieldThatBegins(int b) {
            switch (b) {
                case 'i': return Rule.ICE;
                case 'h': return Rule.HEAT;
                case 'o': return Rule.OUT;
                case 's': return Rule.STATION;
                case 'c': return Rule.CAR;
                default: return NONE;
            }
        }

        private static String wordOf(int field) {
            switch (field) {
                case Rule.ICE: return "ice";
                case Rule.HEAT: return "heat";
                case Rule.OUT: return "out";
                case Rule.STATION: return "station";
                default: return "car";
            }
        }
    }

    /** The row; what was in it before it went missing doesn't come back. */
    private static final class Row {
        final int[] numbers = new int[WEATHER_HOURS];
        boolean isThere = false;

        void put(int i, int v) {
            if (!isThere) {
                Arrays.fill(numbers, 0);
                isThere = true;
            }
            numbers[i] = v;
        }
    }
}
