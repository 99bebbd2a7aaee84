import java.util.Random;

/**
 * Promises 24 and 25 against the hours themselves: what a car that is alone is worth for an end
 * is what it brings when it is sent or turned there, run, and sold.
 */
public final class WorthTest {
    private static final Check CHECK = new Check();
    private static final String[] TEXTS = {"fill 100", "fill 60 if ice<20", "vent 1 if out<60", "vent 0 if heat>150",
        "fill 90 if station=1 and heat>50", "vent 1 if car=0 and ice>5 and heat<200", "fill 30 if station>2"};

    public static void main(String[] args) {
        for (int seed = 0; seed < 300; seed++) {
            int best = -1;
            int most = -1;
            for (int end = 0; end < 6; end++) {
                int worth = worthAgainstTheHours(seed, end);
                if (worth > most) {
                    most = worth;
                    best = end;
                }
            }
            CHECK.due("seed " + seed + ": best(0)", lineOf(seed).best(0), best);
        }
        CHECK.end();
    }

    private static int worthAgainstTheHours(int seed, int end) {
        ColdLine x = lineOf(seed);
        int worth = x.worth(0, end);
        String call = "seed " + seed + ": worth(0, " + end + ")";
        int hours = x.look(0, 1) == -1 ? x.send(0, end) : x.turn(0, end);
        CHECK.due(call + " can be asked where it can go to a market", worth >= 0 ? 1 : 0,
                hours >= 0 && x.at(end, 2) > 0 ? 1 : 0);
        if (worth >= 0) {
            for (int h = 0; h < 500 && x.look(0, 7) == 0; h++) {
                x.run(1);
            }
            CHECK.due(call, worth, x.sell(0));
        }
        return worth;
    }

    /** A line with one car, somewhere on its way or not, the same for the same seed. */
    private static ColdLine lineOf(int seed) {
        Random random = new Random(seed);
        ColdLine x = new ColdLine();
        for (int s = 2; s < 6; s++) {
            x.station(1 + random.nextInt(6));
        }
        for (int s = 0; s < 6; s++) {
            x.price(s, random.nextInt(4) == 0 ? 0 : 40 + random.nextInt(60));
            x.stock(s, random.nextInt(120));
            x.gang(s, random.nextInt(101));
            x.late(s, random.nextInt(4));
            for (int k = 0; k < 6; k++) {
                x.weather(s, random.nextInt(48), random.nextInt(600) - 150);
            }
        }
        for (int r = 0; r < 3; r++) {
            int from = random.nextInt(20);
            Check.ruleOf(x, TEXTS[random.nextInt(TEXTS.length)], from, from + 1 + random.nextInt(40));
        }
        x.car(random.nextInt(6), 1 + random.nextInt(20), random.nextInt(200));
        for (int t = 0; t < 4; t++) {
            x.load(0, 10 * random.nextInt(5) + t, 1 + random.nextInt(500), 500 + random.nextInt(3000),
                    1 + random.nextInt(20), random.nextInt(300) - 50);
        }
        x.fill(0, 1 + random.nextInt(50));
        x.run(1 + random.nextInt(5));
        if (random.nextInt(4) > 0) {
            x.send(0, random.nextInt(6));
            x.run(1 + random.nextInt(20));
        }
        return x;
    }
}
