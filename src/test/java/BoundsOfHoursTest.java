/** The bounds that the document names for an hour and for loads: terms, part 2, and promise 22. */
public final class BoundsOfHoursTest {
    private static final Check CHECK = new Check();
    private static final Bounds BUSY = new Bounds(CHECK, Bounds::busyLine);

    public static void main(String[] args) {
        oneToTwoHundredHours();
        comeInTheHoursOfOneRun();
        heatGrowsCutTowardsZero();
        usedOfEachHundred();
        onlyHeatsAboveZero();
        noMoreThanItsIce();
        usedTimesTheTier();
        heatBelowAllWeather();
        halfTheSumIsCut();
        outsideOfTheLastHourOfALeg();
        tableZeroAtLeastNineAtMost();
        lifeNeverBelowZero();
        twiceOfSoftAndMixed();
        mixedInTurns();
        mixedBeforeItGoes();
        ripeHoursAtHundred();
        ripeHoursOneAndLast();
        wetSixtyLower();
        standZeroAndOne();
        noStandAtTheEnd();
        lateOnTheWay();
        legOfOneHour();
        carsByNumbers();
        fiveHundredAndTwelveCalls();
        CHECK.end();
    }

    // "n HOURS (1 .. 200)"; "BELOW, NO."
    private static void oneToTwoHundredHours() {
        BUSY.taken("run(1)", x -> x.run(1), 0);
        BUSY.taken("run(200)", x -> x.run(200), 2);
        BUSY.refused("run(0)", x -> x.run(0), ColdLine.NO);
        BUSY.refused("run(201)", x -> x.run(201), ColdLine.NO);
        BUSY.refused("run(MAX)", x -> x.run(Integer.MAX_VALUE), ColdLine.NO);
        BUSY.refused("run(-1)", x -> x.run(-1), ColdLine.BELOW);
        BUSY.refused("run(MIN)", x -> x.run(Integer.MIN_VALUE), ColdLine.BELOW);
        ColdLine x = Bounds.busyLine();
        x.run(200);
        CHECK.due("200 hours later", x.count(0), 203);
    }

    // "how often a CAR has COME"
    private static void comeInTheHoursOfOneRun() {
        ColdLine x = new ColdLine();
        for (int c = 0; c < 10; c++) {
            x.car(c % 2, 1, 0);
            x.send(c, 1 - c % 2);
        }
        CHECK.due("an hour before", x.run(4), 0);
        CHECK.due("all ten in one hour", x.run(1), 10);
        CHECK.due("they come once", x.run(1), 0);
    }

    private static int heatAfterAnHour(int outside, int leak, int vent, int heat) {
        ColdLine x = Check.lineAt(outside);
        x.car(0, leak, heat);
        x.vent(0, vent);
        x.run(1);
        return x.tier(0, 3, 0);
    }

    // "quotients are cut towards 0": on both sides of a whole number
    private static void heatGrowsCutTowardsZero() {
        CHECK.due("99 of 100", heatAfterAnHour(99, 1, 0, 0), 0);
        CHECK.due("100 of 100", heatAfterAnHour(100, 1, 0, 0), 1);
        CHECK.due("-99 of 100", heatAfterAnHour(-99, 1, 0, 0), 0);
        CHECK.due("-100 of 100", heatAfterAnHour(-100, 1, 0, 0), -1);
        CHECK.due("-101 of 100", heatAfterAnHour(-101, 1, 0, 0), -1);
        CHECK.due("199 of 100", heatAfterAnHour(199, 1, 0, 0), 1);
        CHECK.due("-199 of 100", heatAfterAnHour(-199, 1, 0, 0), -1);
        CHECK.due("no difference", heatAfterAnHour(37, 40, 1, 37), 37);
        CHECK.due("the greatest step up", heatAfterAnHour(500, 40, 1, -400), -400 + 900 * 55 / 100);
        CHECK.due("the greatest step down", heatAfterAnHour(-400, 40, 1, 500), 500 - 900 * 55 / 100);
        CHECK.due("the least leak, open", heatAfterAnHour(100, 1, 1, 0), 16);
    }

    /** A car with these heats and this ice where it is 0 outside, after an hour. */
    private static ColdLine usedAfter(int ice, int... heats) {
        ColdLine x = Check.lineAt(0);
        x.car(0, 1, 0);
        for (int t = 0; t < 4; t++) {
            x.load(0, t, 1, 1000, 0, heats[t]);
        }
        x.stock(0, 100);
        if (ice > 0) {
            x.fill(0, ice);
        }
        x.run(1);
        return x;
    }

    private static void used(int due, int ice, int... heats) {
        ColdLine x = usedAfter(ice, heats);
        CHECK.due("used", x.count(6), due);
        CHECK.due("ice that is left", x.look(0, 4), ice - due);
    }

    // "the sum of those of its four HEATS that are above 0, / 100"
    private static void usedOfEachHundred() {
        used(0, 50, 0, 0, 0, 0);
        used(0, 50, 99, 0, 0, 0);
        used(1, 50, 100, 0, 0, 0);
        used(0, 50, 24, 25, 25, 25);
        used(1, 50, 25, 25, 25, 25);
        used(1, 50, 199, 0, 0, 0);
        used(19, 50, 500, 500, 500, 499);
        used(20, 50, 500, 500, 500, 500);
    }

    private static void onlyHeatsAboveZero() {
        used(1, 50, -1, 0, 100, -400);
        used(1, 50, -400, -400, -400, 100);
        used(0, 50, -400, -400, -400, -400);
        used(1, 50, 1, -1, 99, 0);
        used(0, 50, 0, -1, 99, 0);
    }

    // "but no more than its ICE"
    private static void noMoreThanItsIce() {
        used(5, 6, 500, 0, 0, 0);
        used(5, 5, 500, 0, 0, 0);
        used(4, 4, 500, 0, 0, 0);
        used(1, 1, 500, 500, 500, 500);
        used(0, 0, 500, 500, 500, 500);
        CHECK.due("heat without ice", usedAfter(0, 500, 500, 500, 500).tier(0, 0, 0), 495);
    }

    // "less by USED times (4 - t) / 2", which is cut
    private static void usedTimesTheTier() {
        int[][] due = {{97, 98, 98, 99}, {95, 96, 97, 98}, {93, 95, 96, 98}};
        for (int used = 1; used <= 3; used++) {
            ColdLine x = usedAfter(used, 100, 100, 100, 100);
            CHECK.due("used", x.count(6), used);
            for (int t = 0; t < 4; t++) {
                CHECK.due("99 less " + used + " times " + (4 - t) + " / 2", x.tier(0, t, 0), due[used - 1][t]);
            }
        }
    }

    /* Nothing bounds a heat that ice makes lower: it may be below -400. */
    private static void heatBelowAllWeather() {
        ColdLine x = Check.lineAt(-400);
        x.car(0, 1, -400);
        x.load(0, 3, 1, 1000, 0, 500);
        x.stock(0, 100);
        x.fill(0, 100);
        x.run(1);
        CHECK.due("5 used, tier 0", x.tier(0, 0, 0), -410);
        CHECK.due("5 used, tier 3", x.tier(0, 3, 0), 500 - 9 - 2);
    }

    private static ColdLine onALeg(int here, int there) {
        ColdLine x = new ColdLine();
        x.weather(0, 0, here);
        x.weather(1, 0, there);
        x.car(0, 40, 0);
        x.vent(0, 1);
        x.send(0, 1);
        x.run(1);
        return x;
    }

    // "on a LEG half the sum of both, cut": towards 0
    private static void halfTheSumIsCut() {
        int[][] pairs = {{100, 301}, {-100, -301}, {-400, 500}, {500, -400}, {499, 500}, {-399, -400}};
        for (int[] pair : pairs) {
            ColdLine x = onALeg(pair[0], pair[1]);
            int first = x.tier(0, 3, 0);
            int half = (pair[0] + pair[1]) / 2;
            x.run(1);
            CHECK.due(pair[0] + " and " + pair[1], x.tier(0, 3, 0), first + (half - first) * 55 / 100);
        }
        // 2 times 55 / 100 is 1, 1 times 55 / 100 is 0.
        int[] there = {-4, -3, -1, 1, 3, 4};
        int[] due = {-1, 0, 0, 0, 0, 1};
        for (int i = 0; i < there.length; i++) {
            ColdLine x = onALeg(0, there[i]);
            x.run(1);
            CHECK.due("half of " + there[i], x.tier(0, 3, 0), due[i]);
        }
    }

    // Steps (1) to (3) see the car where it was before step (4).
    private static void outsideOfTheLastHourOfALeg() {
        ColdLine x = Bounds.lineOf(3);
        x.weather(0, 0, 0);
        x.weather(1, 0, 0);
        x.weather(2, 0, 200);
        x.car(1, 10, 0);
        x.send(0, 2);
        x.run(1);
        CHECK.due("it sets out: the hour was at 1", x.tier(0, 0, 0), 0);
        CHECK.due("one hour of the leg is left", x.look(0, 2), 1);
        CHECK.due("it comes", x.run(1), 1);
        CHECK.due("the hour was on the leg", x.tier(0, 0, 0), 10);
        x.run(1);
        CHECK.due("then it is at 2", x.tier(0, 0, 0), 29);
    }

    private static int lossOf(int kind, int heat) {
        ColdLine x = Check.lineAt(heat);
        x.car(0, 1, heat);
        x.load(0, 10 * kind, 1, 1000, 1, heat);
        x.run(1);
        return 1000 - x.tier(0, 0, 3);
    }

    // "number HEAT / 50, 0 at least, 9 at most, of a TABLE of ten (1 2 3 5 8 12 18 25 35 50 at first)"
    private static void tableZeroAtLeastNineAtMost() {
        int[] table = {1, 2, 3, 5, 8, 12, 18, 25, 35, 50};
        for (int heat = -400; heat <= 500; heat++) {
            int band = heat < 50 ? 0 : heat >= 450 ? 9 : heat / 50;
            CHECK.due("heat " + heat, lossOf(0, heat), table[band]);
        }
        ColdLine x = Check.lineAt(-400);
        x.car(0, 1, -400);
        x.load(0, 0, 1, 100, 0, -400);
        x.load(0, 3, 1, 100, 0, 500);
        x.stock(0, 9);
        x.fill(0, 9);
        x.run(1);
        CHECK.due("-410 is of band 0", x.tier(0, 0, 3), 99);
    }

    private static int lifeAfterAnHour(int kind, int life, int loss) {
        ColdLine x = Check.lineAt(150);
        x.loss(3, loss);
        x.car(0, 1, 150);
        x.load(0, 10 * kind, 1, life, 1, 150);
        x.run(1);
        return x.tier(0, 0, 3);
    }

    // "LIFE is never below 0"
    private static void lifeNeverBelowZero() {
        CHECK.due("one more than the loss", lifeAfterAnHour(0, 8, 7), 1);
        CHECK.due("as much as the loss", lifeAfterAnHour(0, 7, 7), 0);
        CHECK.due("one less than the loss", lifeAfterAnHour(0, 6, 7), 0);
        CHECK.due("1 and 999", lifeAfterAnHour(0, 1, 999), 0);
        CHECK.due("SOFT: one more than twice", lifeAfterAnHour(1, 15, 7), 1);
        CHECK.due("SOFT: twice", lifeAfterAnHour(1, 14, 7), 0);
        CHECK.due("SOFT: one less than twice", lifeAfterAnHour(1, 13, 7), 0);
        CHECK.due("MIXED: one less than twice", lifeAfterAnHour(4, 13, 7), 0);
        CHECK.due("a loss of 0", lifeAfterAnHour(0, 1, 0), 1);
        CHECK.due("the most", lifeAfterAnHour(1, 10000, 999), 8002);
    }

    // "1 SOFT: twice that", "4 MIXED: twice that in the first hour that it lives"
    private static void twiceOfSoftAndMixed() {
        int[] heats = {-400, 0, 49, 50, 449, 450, 500};
        for (int heat : heats) {
            CHECK.due("SOFT at " + heat, lossOf(1, heat), 2 * lossOf(0, heat));
            CHECK.due("MIXED at " + heat, lossOf(4, heat), 2 * lossOf(0, heat));
        }
    }

    // "once in the second one, and so on in turns"
    private static void mixedInTurns() {
        ColdLine x = Check.lineAt(150);
        x.run(1);
        x.car(0, 1, 150);
        x.run(2);
        x.load(0, 41, 1, 1000, 0, 150);
        int life = 1000;
        for (int h = 0; h < 8; h++) {
            x.run(1);
            life -= h % 2 == 0 ? 10 : 5;
            CHECK.due("MIXED after hour " + h, x.tier(0, 1, 3), life);
        }
    }

    /* Its turns go on in hours in which it loses nothing, and through rests and ways alike. */
    private static void mixedBeforeItGoes() {
        ColdLine x = Check.lineAt(150);
        x.car(0, 1, 150);
        x.load(0, 40, 1, 1000, 0, 150);
        x.run(1);
        CHECK.due("twice", x.tier(0, 0, 3), 990);
        x.loss(3, 0);
        x.run(1);
        x.loss(3, 5);
        x.send(0, 1);
        x.run(1);
        CHECK.due("the third hour: twice", x.tier(0, 0, 3), 980);
        x.run(1);
        CHECK.due("the fourth, on a leg: once", x.tier(0, 0, 3), 975);
    }

    private static ColdLine firm(int heat, int ripe) {
        ColdLine x = Check.lineAt(heat);
        x.car(0, 1, heat);
        x.load(0, 20, 1, 1000, ripe, heat);
        return x;
    }

    // "an hour with a HEAT of 100 or more takes one"
    private static void ripeHoursAtHundred() {
        int[] heats = {-400, 0, 99, 100, 101, 500};
        int[] due = {5, 5, 5, 4, 4, 4};
        for (int i = 0; i < heats.length; i++) {
            ColdLine x = firm(heats[i], 5);
            x.run(1);
            CHECK.due("ripe at " + heats[i], x.tier(0, 0, 4), due[i]);
            CHECK.due("life at " + heats[i], x.tier(0, 0, 3), 1000);
        }
        ColdLine x = Check.lineAt(500);
        x.car(0, 10, 99);
        x.load(0, 20, 1, 1000, 5, 99);
        x.run(1);
        CHECK.due("the heat after the step counts", x.tier(0, 0, 4), 4);
    }

    // "as long as one is left it loses nothing .. else as LOAD"
    private static void ripeHoursOneAndLast() {
        ColdLine x = firm(100, 1);
        x.run(1);
        CHECK.due("the hour that takes the last one", x.tier(0, 0, 3), 1000);
        x.run(1);
        CHECK.due("the next one", x.tier(0, 0, 3), 997);
        CHECK.due("none is left, not less", x.tier(0, 0, 4), 0);
        ColdLine most = firm(500, 99);
        most.run(99);
        CHECK.due("99 hours", most.tier(0, 0, 3), 1000);
        CHECK.due("none is left", most.tier(0, 0, 4), 0);
        most.run(1);
        CHECK.due("one hour more", most.tier(0, 0, 3), 950);
        ColdLine cold = firm(99, 1);
        cold.run(200);
        CHECK.due("never ripe", cold.tier(0, 0, 3), 1000);
    }

    // "3 WET: as LOAD at a HEAT that is 60 lower"
    private static void wetSixtyLower() {
        for (int heat = -340; heat <= 500; heat++) {
            CHECK.due("WET at " + heat, lossOf(3, heat), lossOf(0, heat - 60));
        }
        CHECK.due("WET at -400", lossOf(3, -400), 1);
    }

    private static void hoursOf(String when, ColdLine x, int stand, int left) {
        CHECK.due(when + ": to stand", x.look(0, 3), stand);
        CHECK.due(when + ": left of the leg", x.look(0, 2), left);
    }

    // "if it has to STAND more that is one hour less now; else it sets out .., of which all hours are left"
    private static void standZeroAndOne() {
        for (int late = 0; late <= 1; late++) {
            ColdLine x = new ColdLine();
            x.late(0, late);
            x.car(0, 1, 0);
            x.send(0, 1);
            hoursOf("sent", x, late, 0);
            if (late == 1) {
                x.run(1);
                hoursOf("the hour that it stands", x, 0, 0);
            }
            x.run(1);
            hoursOf("it set out", x, 0, 4);
            x.run(3);
            hoursOf("the last hour", x, 0, 1);
            CHECK.due("not come", x.look(0, 7), 0);
            CHECK.due("it comes", x.run(1), 1);
            hoursOf("come", x, 0, 0);
        }
    }

    // "if that is its END it doesn't GO any more, and has COME; else it has to STAND LATE hours there"
    private static void noStandAtTheEnd() {
        ColdLine x = Bounds.lineOf(3);
        x.late(1, 48);
        x.late(2, 48);
        x.car(0, 1, 0);
        x.send(0, 1);
        x.run(5);
        CHECK.due("come to 1", x.look(0, 7), 1);
        hoursOf("at its end", x, 0, 0);
        x.run(10);
        hoursOf("later", x, 0, 0);
        CHECK.due("it stays there", x.look(0, 0), 1);
        CHECK.due("it has come still", x.look(0, 7), 1);
    }

    private static void lateOnTheWay() {
        for (int late = 0; late <= 48; late += 48) {
            ColdLine x = Bounds.lineOf(3);
            x.late(1, late);
            x.car(0, 1, 0);
            x.send(0, 2);
            x.run(5);
            hoursOf("come to 1 on its way", x, late, 0);
            CHECK.due("it has not come", x.look(0, 7), 0);
            x.late(1, 7);
            hoursOf("as late was then", x, late, 0);
            CHECK.due("an hour before", x.run(late + 1), 0);
            CHECK.due("it comes to 2", x.run(1), 1);
        }
    }

    private static void legOfOneHour() {
        ColdLine x = Bounds.lineOf(8);
        x.car(7, 1, 0);
        x.send(0, 1);
        for (int s = 6; s >= 1; s--) {
            x.run(1);
            hoursOf("it sets out for " + s, x, 0, 1);
            x.run(1);
            CHECK.due("it is at", x.look(0, 0), s);
        }
        CHECK.due("it has come", x.look(0, 7), 1);
    }

    // "for each CAR by numbers"
    private static void carsByNumbers() {
        ColdLine x = Check.lineAt(0);
        for (int c = 0; c < 10; c++) {
            x.car(0, 1, 0);
        }
        x.stock(0, 95);
        Check.ruleOf(x, "fill 10", 0, 9);
        x.run(1);
        for (int c = 0; c < 10; c++) {
            CHECK.due("ice of " + c, x.look(c, 4), c < 9 ? 10 : 5);
        }
    }

    // "An object is used for at most 512 calls after it has been made"
    private static void fiveHundredAndTwelveCalls() {
        ColdLine x = new ColdLine();
        x.car(0, 1, 0);
        for (int call = 2; call < 512; call++) {
            x.run(200);
        }
        CHECK.due("the 512th call", x.count(0), 510 * 200);
    }
}
