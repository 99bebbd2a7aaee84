import java.util.Random;

/**
 * Runs of any calls with any arguments: no call throws, a refused call and a call that only asks
 * change nothing but status(), and the same calls get the same answers.
 */
public final class AnyCallsTest {
    private static final Check CHECK = new Check();
    /* The document's calls; behind them stand two ways of use: a whole rule, and an hour. */
    private static final int CALLS = 32;
    private static final int RUNS = 150;
    private static final String[] TEXTS = {"fill 100", "fill 40 if ice<20", "vent 1 if out<0", "vent 0",
        "fill 90 if station=1 and heat>50", "vent 1 if car=0 and ice>5 and heat<200", "fill 1 if oops"};

    public static void main(String[] args) {
        for (int seed = 0; seed < RUNS; seed++) {
            anyRun(seed);
        }
        CHECK.end();
    }

    private static void anyRun(int seed) {
        Random random = new Random(seed);
        ColdLine x = new ColdLine();
        ColdLine twin = new ColdLine();
        boolean rowIsThere = false;
        for (int n = 0; n < 512; n++) {
            int which = random.nextInt(CALLS + 2);
            int[] a = new int[6];
            for (int i = 0; i < a.length; i++) {
                a[i] = anyNumber(random, which, i);
            }
            String before = stateOf(x, rowIsThere);
            int refusedBefore = refusedInAll(x);
            int answer = answerOf(x, which, a);
            int refused = refusedInAll(x) - refusedBefore;
            String call = "seed " + seed + ", call " + n + " (" + which + ")";
            CHECK.due(call + " twice", answerOf(twin, which, a), answer);
            CHECK.so(call + " is refused once at most", refused == 0 || refused == 1);
            if (which < CALLS && refused == 1 || onlyAsks(which)) {
                CHECK.so(call + " changes nothing", before.equals(stateOf(x, rowIsThere)));
            }
            rowIsThere = which == 27 && answer == 1 || which != 28 && rowIsThere;
            if (answer <= -2 && answer >= -8 && !mayAnswerBelowZero(which)) {
                CHECK.due(call + " counts its refusal", refused, 1);
            }
            sums(call, x);
        }
    }

    private static int anyNumber(Random random, int which, int place) {
        int dice = random.nextInt(30);
        if (dice == 0) {
            return random.nextInt();
        }
        if (dice == 1) {
            int[] edges = {-1, -9999, Integer.MIN_VALUE, Integer.MAX_VALUE, 48, 101, 501, -401, 100001};
            return edges[random.nextInt(edges.length)];
        }
        return usualNumber(random, which, place);
    }

    private static int usualNumber(Random random, int which, int place) {
        switch (which * 10 + place) {
            case 11: return random.nextInt(800) - 100;
            case 21: case 111: return random.nextInt(60);
            case 41: return random.nextInt(48);
            case 42: case 82: case 95: return random.nextInt(700) - 200;
            case 81: return 1 + random.nextInt(40);
            case 91: return 10 * random.nextInt(5) + random.nextInt(4);
            case 92: return 1 + random.nextInt(500);
            case 93: return 1 + random.nextInt(3000);
            case 94: return 1 + random.nextInt(30);
            case 191: return 20 + random.nextInt(2000);
            case 200: return 1 + random.nextInt(12);
            case 270: case 290: case 300: case 301: case 302: return random.nextInt(30);
            case 271: return random.nextInt(1200) - 600;
            case 310: return -2 - random.nextInt(7);
            default: return random.nextInt(6);
        }
    }

    private static int answerOf(ColdLine x, int which, int[] a) {
        switch (which) {
            case 0: return x.station(a[0]);
            case 1: return x.stock(a[0], a[1]);
            case 2: return x.gang(a[0], a[1]);
            case 3: return x.price(a[0], a[1]);
            case 4: return x.weather(a[0], a[1], a[2]);
            case 5: return x.read(a[0]);
            case 6: return x.out(a[0], a[1]);
            case 7: return x.loss(a[0], a[1]);
            case 8: return x.car(a[0], a[1], a[2]);
            case 9: return x.load(a[0], a[1], a[2], a[3], a[4], a[5]);
            case 10: return x.tier(a[0], a[1], a[2]);
            case 11: return x.fill(a[0], a[1]);
            case 12: return x.vent(a[0], a[1]);
            case 13: return x.send(a[0], a[1]);
            case 14: return x.turn(a[0], a[1]);
            case 15: return x.late(a[0], a[1]);
            case 16: return x.look(a[0], a[1]);
            case 17: return x.feed(a[0], a[1]);
            case 18: return x.wipe();
            default: return answerOfOthers(x, which, a);
        }
    }

    private static int answerOfOthers(ColdLine x, int which, int[] a) {
        switch (which) {
            case 19: return x.rule(a[0], a[1]);
            case 20: return x.run(a[0]);
            case 21: return x.sell(a[0]);
            case 22: return x.worth(a[0], a[1]);
            case 23: return x.best(a[0]);
            case 24: return x.claim(a[0], a[1]);
            case 25: return x.count(a[0]);
            case 26: return x.at(a[0], a[1]);
            case 27: return x.tell(a[0], a[1]);
            case 28: return x.tear();
            case 29: return x.row(a[0]);
            case 30: return x.copy(a[0], a[1], a[2]);
            case 31: return x.status(a[0]);
            case 32: return Check.ruleOf(x, TEXTS[Math.floorMod(a[0], TEXTS.length)], 0, 1000) & 15;
            default: return x.run(1);
        }
    }

    private static boolean onlyAsks(int which) {
        return which == 6 || which == 10 || which == 16 || which >= 22 && which <= 26 || which == 29 || which == 31;
    }

    /* weather, out, tier and row answer numbers that may look like refusals. */
    private static boolean mayAnswerBelowZero(int which) {
        return which == 4 || which == 6 || which == 10 || which == 29;
    }

    private static int refusedInAll(ColdLine x) {
        int sum = 0;
        for (int by = -8; by <= -2; by++) {
            sum += x.status(by);
        }
        return sum;
    }

    private static void sums(String call, ColdLine x) {
        int ice = 0;
        for (int c = 0; c < x.count(2); c++) {
            ice += x.look(c, 4);
            CHECK.so(call + ": ice", x.look(c, 4) >= 0 && x.look(c, 4) <= 100);
            CHECK.so(call + ": it goes, or has no leg", x.look(c, 1) >= 0 || x.look(c, 2) == 0 && x.look(c, 3) == 0);
            CHECK.so(call + ": it stands, or is on a leg", x.look(c, 2) == 0 || x.look(c, 3) == 0);
        }
        CHECK.due(call + ": put in less used", x.count(5) - x.count(6), ice);
    }

    /** All that can be asked without a change, as a text. */
    private static String stateOf(ColdLine x, boolean rowIsThere) {
        StringBuilder s = new StringBuilder();
        for (int i = 0; i < 48 && rowIsThere; i++) {
            s.append(x.row(i)).append(' ');
        }
        for (int what = 0; what <= 8; what++) {
            s.append(x.count(what)).append(' ');
        }
        for (int station = 0; station < x.count(1); station++) {
            for (int what = 0; what <= 4; what++) {
                s.append(x.at(station, what)).append(' ');
            }
            for (int hour = 0; hour < 48; hour++) {
                s.append(x.out(station, hour)).append(' ');
            }
        }
        for (int car = 0; car < x.count(2); car++) {
            stateOfCar(s, x, car);
        }
        return s.toString();
    }

    private static void stateOfCar(StringBuilder s, ColdLine x, int car) {
        for (int what = 0; what <= 7; what++) {
            s.append(x.look(car, what)).append(' ');
        }
        for (int tier = 0; tier < 4; tier++) {
            for (int what = 0; what <= 4; what++) {
                s.append(x.tier(car, tier, what)).append(' ');
            }
        }
        for (int part = 0; part < 3; part++) {
            s.append(x.claim(car, part)).append(' ');
        }
    }
}
