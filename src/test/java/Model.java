import java.util.ArrayList;
import java.util.Arrays;
import java.util.List;
import java.util.regex.Matcher;
import java.util.regex.Pattern;

/**
 * The document a second time, sentence by sentence and without a thought for speed or room: what
 * was sold and what each hour took is written down and asked again, weather is looked for
 * backwards, and WORTH is a whole copy of the line from which the other cars are taken.
 */
final class Model {
    private static final int NONE = -1;
    private static final int MISSING = -2;
    private static final int BEYOND = -3;
    private static final int BELOW = -4;
    private static final int COPY = -6;
    private static final int NO = -7;
    private static final int FULL = -8;
    private static final int GAP = -9999;
    private static final String TEST = "(ice|heat|out|station|car)([=<>])(-?[0-9]{1,3})";
    private static final Pattern RULE = Pattern.compile(
            "(fill|vent) ([0-9]{1,3})(?: if " + TEST + "(?: and " + TEST + "(?: and " + TEST + ")?)?)?");

    private static final class Station {
        int stock = 0;
        int gang = 100;
        int price = 0;
        int late = 0;
        int byGang = 0;
        int[] weather = new int[48];
        final List<Integer> hoursOfSales = new ArrayList<>();

        Station() {
            Arrays.fill(weather, GAP);
        }

        int weatherIn(int hour) {
            for (int back = 0; back < 48; back++) {
                int v = weather[(hour % 48 + 48 - back) % 48];
                if (v != GAP) {
                    return v;
                }
            }
            return 150;
        }

        int salesBefore(int openHour) {
            return (int) hoursOfSales.stream().filter(h -> h >= openHour - 23 && h <= openHour).count();
        }
    }

    private static final class Load {
        final int kind;
        final int baskets;
        int life;
        int ripe;
        int hoursLived = 0;

        Load(int kind, int baskets, int life, int ripe) {
            this.kind = kind;
            this.baskets = baskets;
            this.life = life;
            this.ripe = ripe;
        }
    }

    /** What one hour of a car was like, for CLAIM. */
    private record Diary(int hour, boolean wasAtStation, boolean wasShort, boolean hadToStand, int lost) { }

    private static final class Car {
        int number;
        int leak;
        int ice = 0;
        int vent = 0;
        final int[] heats = new int[4];
        final Load[] loads = new Load[4];
        int station;
        /* The station to which its leg leads; NONE: it is at a station. */
        int towards = NONE;
        int left = 0;
        int stand = 0;
        int end = NONE;
        int shortInAll = 0;
        boolean come = false;
        int sentIn = Integer.MAX_VALUE;
        final List<Diary> diary = new ArrayList<>();

        Car aloneWithoutDiary() {
            Car c = new Car();
            c.number = number;
            c.leak = leak;
            c.ice = ice;
            c.vent = vent;
            c.station = station;
            c.towards = towards;
            c.left = left;
            c.stand = stand;
            c.end = end;
            for (int t = 0; t < 4; t++) {
                c.heats[t] = heats[t];
                if (loads[t] != null) {
                    c.loads[t] = new Load(loads[t].kind, loads[t].baskets, loads[t].life, loads[t].ripe);
                    c.loads[t].hoursLived = loads[t].hoursLived;
                }
            }
            return c;
        }
    }

    private record Rule(Matcher text, int from, int to) { }

    private final List<Station> stations = new ArrayList<>();
    private final List<Integer> legs = new ArrayList<>();
    /* In a copy for WORTH, cars that are taken away are null. */
    private final List<Car> cars = new ArrayList<>();
    private final List<Rule> rules = new ArrayList<>();
    private int[] table = {1, 2, 3, 5, 8, 12, 18, 25, 35, 50};
    private final StringBuilder tape = new StringBuilder();
    private int[] theRow = null;
    private final int[] counts = new int[9];
    private final int[] refused = new int[9];

    Model() {
        stations.add(new Station());
        stations.add(new Station());
        legs.add(4);
    }

    private int no(int by) {
        refused[-by]++;
        return by;
    }

    private int zero(int by) {
        refused[-by]++;
        return 0;
    }

    private boolean noStation(int s) {
        return s < 0 || s > stations.size() - 1;
    }

    private boolean noCar(int c) {
        return c < 0 || c > cars.size() - 1;
    }

    private static boolean noHeat(int v) {
        return v < -400 || v > 500;
    }

    // ---- the line

    public int station(int leg) {
        if (leg < 1 || leg > 12) {
            return no(NO);
        }
        if (stations.size() == 8) {
            return no(FULL);
        }
        legs.add(leg);
        stations.add(new Station());
        return stations.size();
    }

    public int stock(int station, int v) {
        if (noStation(station)) {
            return no(BEYOND);
        }
        long then = (long) stations.get(station).stock + v;
        if (v < -10000 || v > 10000 || then < 0 || then > 100000) {
            return no(NO);
        }
        stations.get(station).stock = (int) then;
        return (int) then;
    }

    public int gang(int station, int v) {
        if (noStation(station)) {
            return no(BEYOND);
        }
        if (v < 0 || v > 100) {
            return no(NO);
        }
        int before = at(station, 1);
        stations.get(station).gang = v;
        return before;
    }

    public int price(int station, int v) {
        if (noStation(station)) {
            return no(BEYOND);
        }
        if (v < 0 || v > 99) {
            return no(NO);
        }
        int before = at(station, 2);
        stations.get(station).price = v;
        return before;
    }

    public int weather(int station, int hour, int v) {
        if (noStation(station) || hour < 0 || hour > 47) {
            return zero(BEYOND);
        }
        if (noHeat(v) && v != GAP) {
            return zero(NO);
        }
        int before = stations.get(station).weather[hour];
        stations.get(station).weather[hour] = v;
        return before;
    }

    public int read(int station) {
        if (noStation(station)) {
            return no(BEYOND);
        }
        if (theRow == null) {
            return no(MISSING);
        }
        int gaps = 0;
        for (int h = 0; h < 48; h++) {
            boolean gap = noHeat(theRow[h]);
            stations.get(station).weather[h] = gap ? GAP : theRow[h];
            gaps += gap ? 1 : 0;
        }
        return 48 - gaps;
    }

    public int out(int station, int hour) {
        return noStation(station) || hour < 0 ? zero(BEYOND) : stations.get(station).weatherIn(hour);
    }

    public int loss(int b, int v) {
        if (b < 0 || b > 9) {
            return no(BEYOND);
        }
        if (v < 0 || v > 999) {
            return no(NO);
        }
        int before = table[b];
        table[b] = v;
        return before;
    }

    // ---- cars and loads

    public int car(int station, int leak, int heat) {
        if (noStation(station)) {
            return no(BEYOND);
        }
        if (leak < 1 || leak > 40 || noHeat(heat)) {
            return no(NO);
        }
        if (cars.size() == 10) {
            return no(FULL);
        }
        Car c = new Car();
        c.number = cars.size();
        c.station = station;
        c.leak = leak;
        Arrays.fill(c.heats, heat);
        cars.add(c);
        return c.number;
    }

    public int load(int car, int told, int baskets, int life, int ripe, int heat) {
        if (noCar(car) || told < 0 || told % 10 > 3) {
            return no(BEYOND);
        }
        Car c = cars.get(car);
        int kind = told / 10;
        int tier = told % 10;
        if (kind > 4 || baskets < 1 || baskets > 500 || life < 1 || life > 10000) {
            return no(NO);
        }
        if (kind == 2 && (ripe < 1 || ripe > 99) || noHeat(heat) || c.end != NONE || c.loads[tier] != null) {
            return no(NO);
        }
        c.loads[tier] = new Load(kind, baskets, life, ripe);
        c.heats[tier] = heat;
        return baskets;
    }

    public int tier(int car, int tier, int what) {
        if (noCar(car) || tier < 0 || tier > 3) {
            return zero(BEYOND);
        }
        if (what < 0 || what > 4) {
            return zero(NO);
        }
        Load load = cars.get(car).loads[tier];
        if (what == 0) {
            return cars.get(car).heats[tier];
        }
        if (load == null) {
            return NONE;
        }
        int ripe = load.kind == 2 ? load.ripe : NONE;
        return new int[] {load.kind, load.baskets, load.life, ripe}[what - 1];
    }

    public int fill(int car, int v) {
        if (noCar(car)) {
            return no(BEYOND);
        }
        Car c = cars.get(car);
        if (c.towards != NONE || v < 1 || v > 100 - c.ice || v > stations.get(c.station).stock) {
            return no(NO);
        }
        c.ice += v;
        stations.get(c.station).stock -= v;
        counts[5] += v;
        return c.ice;
    }

    public int vent(int car, int open) {
        if (noCar(car)) {
            return no(BEYOND);
        }
        if (open != 0 && open != 1) {
            return no(NO);
        }
        int before = cars.get(car).vent;
        cars.get(car).vent = open;
        return before;
    }

    public int send(int car, int end) {
        if (noCar(car) || noStation(end)) {
            return no(BEYOND);
        }
        Car c = cars.get(car);
        if (c.end != NONE || c.station == end) {
            return no(NO);
        }
        c.end = end;
        c.come = false;
        c.stand = stations.get(c.station).late;
        c.sentIn = counts[0];
        return hoursBetween(c.station, end);
    }

    public int turn(int car, int end) {
        if (noCar(car) || noStation(end)) {
            return no(BEYOND);
        }
        Car c = cars.get(car);
        if (c.end == NONE) {
            return no(NO);
        }
        if (c.towards == NONE) {
            if (end == c.station) {
                return no(NO);
            }
            c.end = end;
            return hoursBetween(c.station, end);
        }
        int side = c.towards - c.station;
        if (end != c.towards && Integer.signum(end - c.towards) != side) {
            return no(NO);
        }
        c.end = end;
        return c.left + hoursBetween(c.towards, end);
    }

    private int hoursBetween(int one, int other) {
        return legs.subList(Math.min(one, other), Math.max(one, other)).stream().mapToInt(l -> l).sum();
    }

    public int late(int station, int hours) {
        if (noStation(station)) {
            return no(BEYOND);
        }
        if (hours < 0 || hours > 48) {
            return no(NO);
        }
        int before = at(station, 3);
        stations.get(station).late = hours;
        return before;
    }

    public int look(int car, int what) {
        if (noCar(car)) {
            return no(BEYOND);
        }
        if (what < 0 || what > 7) {
            return no(NO);
        }
        Car c = cars.get(car);
        return new int[] {c.station, c.end, c.left, c.stand, c.ice, c.vent, c.shortInAll, c.come ? 1 : 0}[what];
    }

    // ---- rules

    public int feed(int bytes, int n) {
        if (n < 0) {
            return no(BELOW);
        }
        if (n > 4) {
            return no(NO);
        }
        if (tape.length() + n > 80) {
            return no(FULL);
        }
        char[] all = {(char) (bytes >>> 24), (char) (bytes >>> 16 & 255), (char) (bytes >>> 8 & 255), (char) (bytes & 255)};
        tape.append(all, 4 - n, n);
        return tape.length();
    }

    public int wipe() {
        int before = tape.length();
        tape.setLength(0);
        return before;
    }

    public int rule(int from, int to) {
        if (from < 0 || to < 0 || from > 100000 || to > 100000 || from >= to) {
            return no(NO);
        }
        if (rules.size() == 10) {
            return no(FULL);
        }
        Matcher text = RULE.matcher(tape.toString());
        if (!text.matches()) {
            return -10 - fault(tape.toString());
        }
        rules.add(new Rule(text, from, to));
        tape.setLength(0);
        return rules.size() - 1;
    }

    private static int fault(String text) {
        for (int n = 1; n <= text.length(); n++) {
            Matcher begun = RULE.matcher(text.substring(0, n));
            if (!begun.matches() && !begun.hitEnd()) {
                return n - 1;
            }
        }
        return text.length();
    }

    private boolean holds(Rule rule, Car c) {
        if (counts[0] < rule.from || counts[0] >= rule.to) {
            return false;
        }
        for (int group = 3; group <= 9 && rule.text.group(group) != null; group += 3) {
            int bound = Integer.parseInt(rule.text.group(group + 2));
            int compared = Integer.compare(fact(rule.text.group(group), c), bound);
            if (compared != "<=>".indexOf(rule.text.group(group + 1)) - 1) {
                return false;
            }
        }
        return true;
    }

    private int fact(String field, Car c) {
        switch (field) {
            case "ice": return c.ice;
            case "heat": return Arrays.stream(c.heats).max().getAsInt();
            case "out": return outside(c);
            case "station": return c.station;
            default: return c.number;
        }
    }

    /** The NUMBER of the rule of the greatest number that holds. */
    private Integer numberOf(String key, Car c) {
        Integer number = null;
        for (Rule rule : rules) {
            if (rule.text.group(1).equals(key) && holds(rule, c)) {
                number = Integer.valueOf(rule.text.group(2));
            }
        }
        return number;
    }

    // ---- hours, markets

    public int run(int n) {
        if (n < 0) {
            return no(BELOW);
        }
        if (n < 1 || n > 200) {
            return no(NO);
        }
        int came = 0;
        for (int i = 0; i < n; i++) {
            came += hour();
        }
        return came;
    }

    private int hour() {
        stations.forEach(s -> s.byGang = 0);
        int came = 0;
        for (Car c : cars) {
            came += c == null ? 0 : hourOf(c);
        }
        counts[0]++;
        return came;
    }

    private int outside(Car c) {
        int here = stations.get(c.station).weatherIn(counts[0]);
        return c.towards == NONE ? here : (here + stations.get(c.towards).weatherIn(counts[0])) / 2;
    }

    private int hourOf(Car c) {
        boolean atStation = c.towards == NONE;
        boolean hasToStand = c.stand > 0;
        int shortNow = atStation ? shortByRules(c) : 0;
        int used = 0;
        for (int heat : c.heats) {
            used += heat > 0 ? heat : 0;
        }
        used = Math.min(used / 100, c.ice);
        c.ice -= used;
        counts[6] += used;
        int outside = outside(c);
        int lost = 0;
        for (int t = 0; t < 4; t++) {
            c.heats[t] += (outside - c.heats[t]) * (c.vent == 1 ? c.leak + 15 : c.leak) / 100;
            c.heats[t] -= used * (4 - t) / 2;
            if (c.loads[t] != null) {
                lost += live(c.loads[t], c.heats[t]) * c.loads[t].baskets;
            }
        }
        c.diary.add(new Diary(counts[0], atStation, shortNow > 0, hasToStand, lost));
        return c.end == NONE ? 0 : go(c);
    }

    private int shortByRules(Car c) {
        Integer vent = numberOf("vent", c);
        Integer fill = numberOf("fill", c);
        if (vent != null) {
            c.vent = vent != 0 ? 1 : 0;
        }
        if (fill == null) {
            return 0;
        }
        Station s = stations.get(c.station);
        int wanted = Math.max(Math.min(fill, 100) - c.ice, 0);
        int put = wanted;
        put = Math.min(put, s.stock);
        put = Math.min(put, s.gang - s.byGang);
        s.stock -= put;
        s.byGang += put;
        c.ice += put;
        counts[5] += put;
        c.shortInAll += wanted - put;
        return wanted - put;
    }

    private int lossAt(int heat) {
        int band = heat / 50;
        return band < 0 ? table[0] : band > 9 ? table[9] : table[band];
    }

    /** How much life it loses. */
    private int live(Load load, int heat) {
        int before = load.life;
        load.hoursLived++;
        int loss = lossAt(heat);
        if (load.kind == 1) {
            loss = 2 * loss;
        } else if (load.kind == 2 && load.ripe > 0) {
            loss = 0;
            load.ripe -= heat >= 100 ? 1 : 0;
        } else if (load.kind == 3) {
            loss = lossAt(heat - 60);
        } else if (load.kind == 4 && load.hoursLived % 2 == 1) {
            loss = 2 * loss;
        }
        load.life = Math.max(0, before - loss);
        return before - load.life;
    }

    private int go(Car c) {
        if (c.towards == NONE && c.stand > 0) {
            c.stand--;
            return 0;
        }
        if (c.towards == NONE) {
            c.towards = c.end > c.station ? c.station + 1 : c.station - 1;
            c.left = hoursBetween(c.station, c.towards);
            return 0;
        }
        c.left--;
        if (c.left > 0) {
            return 0;
        }
        c.station = c.towards;
        c.towards = NONE;
        if (c.station != c.end) {
            c.stand = stations.get(c.station).late;
            return 0;
        }
        c.end = NONE;
        c.come = true;
        return 1;
    }

    private int brings(Car c, int station, int openHour) {
        int sum = 0;
        for (Load load : c.loads) {
            sum += load == null ? 0 : load.baskets * load.life * stations.get(station).price / 1000;
        }
        int ofHundred = Math.min(100, 5 * stations.get(station).salesBefore(openHour));
        return sum - (int) ((long) sum * ofHundred / 100);
    }

    public int sell(int car) {
        if (noCar(car)) {
            return no(BEYOND);
        }
        Car c = cars.get(car);
        if (!c.come || stations.get(c.station).price == 0) {
            return no(NO);
        }
        int brought = brings(c, c.station, counts[0]);
        stations.get(c.station).hoursOfSales.add(counts[0]);
        Arrays.fill(c.loads, null);
        c.come = false;
        counts[7]++;
        counts[8] += brought;
        return brought;
    }

    private Model copyWithOnly(int car) {
        Model m = new Model();
        m.stations.clear();
        m.legs.clear();
        m.legs.addAll(legs);
        for (Station s : stations) {
            Station copy = new Station();
            copy.stock = s.stock;
            copy.gang = s.gang;
            copy.price = s.price;
            copy.late = s.late;
            copy.weather = s.weather.clone();
            copy.hoursOfSales.addAll(s.hoursOfSales);
            m.stations.add(copy);
        }
        for (Car c : cars) {
            m.cars.add(c.number == car ? c.aloneWithoutDiary() : null);
        }
        m.rules.addAll(rules);
        m.table = table.clone();
        m.counts[0] = counts[0];
        return m;
    }

    /** WORTH, or a refusal that is not counted. */
    private int worthOrRefusal(int car, int end) {
        if (noCar(car) || noStation(end)) {
            return BEYOND;
        }
        Model m = copyWithOnly(car);
        Car c = m.cars.get(car);
        int hours = c.end == NONE ? m.send(car, end) : m.turn(car, end);
        if (hours < 0 || stations.get(end).price == 0) {
            return NO;
        }
        for (int h = 0; h < 1000 && !c.come; h++) {
            m.hour();
        }
        return m.brings(c, end, counts[0]);
    }

    public int worth(int car, int end) {
        int worth = worthOrRefusal(car, end);
        return worth < 0 ? no(worth) : worth;
    }

    public int best(int car) {
        if (noCar(car)) {
            return no(BEYOND);
        }
        int best = NONE;
        for (int end = stations.size() - 1; end >= 0; end--) {
            int worth = worthOrRefusal(car, end);
            if (worth >= 0 && (best == NONE || worth >= worthOrRefusal(car, best))) {
                best = end;
            }
        }
        return best;
    }

    public int claim(int car, int part) {
        if (noCar(car)) {
            return no(BEYOND);
        }
        if (part < 0 || part > 2) {
            return no(NO);
        }
        Car c = cars.get(car);
        int sum = 0;
        boolean wasShort = false;
        for (Diary d : c.diary) {
            wasShort = d.wasAtStation ? d.wasShort : wasShort;
            int itsPart = wasShort ? 0 : d.wasAtStation && d.hadToStand ? 1 : 2;
            sum += d.hour >= c.sentIn && itsPart == part ? d.lost / 1000 : 0;
        }
        return sum;
    }

    public int count(int what) {
        if (what < 0 || what > 8) {
            return no(NO);
        }
        counts[1] = stations.size();
        counts[2] = cars.size();
        counts[3] = rules.size();
        counts[4] = tape.length();
        return counts[what];
    }

    public int at(int station, int what) {
        if (noStation(station)) {
            return no(BEYOND);
        }
        if (what < 0 || what > 4) {
            return no(NO);
        }
        Station s = stations.get(station);
        int leg = station < legs.size() ? legs.get(station) : NONE;
        return new int[] {s.stock, s.gang, s.price, s.late, leg}[what];
    }

    // ---- rows

    public int tell(int i, int v) {
        if (i < 0 || i > 47) {
            return no(BEYOND);
        }
        if (v < -9999 || v > 9999) {
            return no(NO);
        }
        theRow = theRow == null ? new int[48] : theRow;
        theRow[i] = v;
        return 1;
    }

    public int tear() {
        int was = theRow == null ? 0 : 1;
        theRow = null;
        return was;
    }

    public int row(int i) {
        if (theRow == null) {
            return zero(MISSING);
        }
        return i < 0 || i > 47 ? zero(BEYOND) : theRow[i];
    }

    public int copy(int i, int j, int n) {
        if (theRow == null) {
            return no(MISSING);
        }
        if (n < 0) {
            return no(BELOW);
        }
        if (i < 0 || j < 0 || (long) i + n > 48 || (long) j + n > 48) {
            return no(COPY);
        }
        int[] asTheyWere = theRow.clone();
        for (int k = 0; k < n; k++) {
            theRow[j + k] = asTheyWere[i + k];
        }
        return n;
    }

    public int status(int by) {
        return by > -2 || by < -8 ? no(NO) : refused[-by];
    }
}
