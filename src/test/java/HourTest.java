/** Promise 22, with the terms of an hour: heat, ice, loads that live, ways, and rules at stations. */
public final class HourTest {
    private static final Check CHECK = new Check();

    public static void main(String[] args) {
        runsThatAreRefused();
        heatIsCutTowardsZero();
        openVentLeaks();
        iceThatIsUsed();
        onlyHeatAboveZeroUsesIce();
        outsideOnALeg();
        weatherOfTheHour();
        kindsOfLoads();
        mixedBeginsAnew();
        firmBelowHundred();
        bandsOfLoss();
        lifeEndsAtZero();
        loadsLiveWithTheNewHeat();
        wayWithLateStations();
        lateAsItIsThen();
        howOftenACarHasCome();
        CHECK.end();
    }

    private static void runsThatAreRefused() {
        ColdLine x = new ColdLine();
        CHECK.due("run(-1)", x.run(-1), -4);
        CHECK.due("run(MIN)", x.run(Integer.MIN_VALUE), -4);
        CHECK.due("run(0)", x.run(0), -7);
        CHECK.due("run(201)", x.run(201), -7);
        CHECK.due("no hour passed", x.count(0), 0);
        CHECK.due("run(200)", x.run(200), 0);
        CHECK.due("run(1)", x.run(1), 0);
        CHECK.due("the open hour", x.count(0), 201);
    }

    private static int heatAfterAnHour(int outside, int leak, int heat, int vent) {
        ColdLine x = Check.lineAt(outside);
        x.car(0, leak, heat);
        x.vent(0, vent);
        x.run(1);
        return x.tier(0, 0, 0);
    }

    private static void heatIsCutTowardsZero() {
        CHECK.due("300 on 200, leak 10", heatAfterAnHour(300, 10, 200, 0), 210);
        CHECK.due("0 on 15, leak 10", heatAfterAnHour(0, 10, 15, 0), 14);
        CHECK.due("15 on 0, leak 10", heatAfterAnHour(15, 10, 0, 0), 1);
        CHECK.due("99 on 0, leak 1", heatAfterAnHour(99, 1, 0, 0), 0);
        CHECK.due("-400 on 500, leak 40", heatAfterAnHour(-400, 40, 500, 0), 140);
    }

    private static void openVentLeaks() {
        CHECK.due("vent open, leak 10", heatAfterAnHour(300, 10, 200, 1), 225);
        CHECK.due("vent open, leak 40", heatAfterAnHour(300, 40, 200, 1), 255);
    }

    private static void iceThatIsUsed() {
        ColdLine x = Check.lineAt(150);
        x.car(0, 10, 150);
        x.stock(0, 100);
        x.fill(0, 5);
        x.run(1);
        int[] due = {140, 143, 145, 148};
        for (int t = 0; t < 4; t++) {
            CHECK.due("no more than its ice, tier " + t, x.tier(0, t, 0), due[t]);
        }
        CHECK.due("ice is gone", x.look(0, 4), 0);
        CHECK.due("used", x.count(6), 5);
        x.fill(0, 50);
        x.run(1);
        CHECK.due("576 uses 5 of it", x.look(0, 4), 45);
        CHECK.due("used in all", x.count(6), 10);
    }

    private static void onlyHeatAboveZeroUsesIce() {
        ColdLine x = Check.lineAt(0);
        x.car(0, 1, -400);
        x.load(0, 2, 1, 10000, 0, 350);
        x.load(0, 3, 1, 10000, 0, 149);
        x.stock(0, 100);
        x.fill(0, 100);
        x.run(1);
        CHECK.due("499 uses 4", x.look(0, 4), 96);
        CHECK.due("tier 0: -396 less 8", x.tier(0, 0, 0), -404);
        CHECK.due("tier 1: -396 less 6", x.tier(0, 1, 0), -402);
        CHECK.due("tier 2: 347 less 4", x.tier(0, 2, 0), 343);
        CHECK.due("tier 3: 148 less 2", x.tier(0, 3, 0), 146);
    }

    private static void outsideOnALeg() {
        ColdLine x = new ColdLine();
        x.weather(0, 0, -100);
        x.weather(1, 0, 51);
        x.car(0, 40, -100);
        x.vent(0, 1);
        x.send(0, 1);
        x.run(1);
        CHECK.due("at the station", x.tier(0, 0, 0), -100);
        x.run(1);
        // -24 outside: 76 times 55 is 4180.
        CHECK.due("first hour of the leg", x.tier(0, 0, 0), -59);
        x.run(1);
        CHECK.due("35 times 55 is 1925", x.tier(0, 0, 0), -40);
        x.run(1);
        CHECK.due("16 times 55 is 880", x.tier(0, 0, 0), -32);
        x.run(1);
        CHECK.due("the last hour of the leg is on it", x.tier(0, 0, 0), -28);
        x.run(1);
        CHECK.due("then 51: 79 times 55 is 4345", x.tier(0, 0, 0), 15);
    }

    private static void weatherOfTheHour() {
        ColdLine x = new ColdLine();
        x.weather(0, 0, 0);
        x.weather(0, 1, 100);
        x.weather(0, 2, 0);
        x.car(0, 40, 0);
        x.run(1);
        CHECK.due("hour 0", x.tier(0, 3, 0), 0);
        x.run(1);
        CHECK.due("hour 1", x.tier(0, 3, 0), 40);
        x.run(1);
        CHECK.due("hour 2", x.tier(0, 3, 0), 24);
        x.run(45);
        x.run(1);
        CHECK.due("hour 48 is as hour 0", x.tier(0, 3, 0), 2);
        x.run(1);
        CHECK.due("hour 49 is as hour 1", x.tier(0, 3, 0), 41);
    }

    private static void kindsOfLoads() {
        ColdLine x = Check.lineAt(150);
        x.car(0, 10, 150);
        x.car(0, 10, 150);
        for (int kind = 0; kind < 4; kind++) {
            x.load(0, 10 * kind + kind, 1, 100, 2, 150);
        }
        x.load(1, 41, 1, 100, 0, 150);
        int[][] due = {{95, 90, 85, 80}, {90, 80, 70, 60}, {100, 100, 95, 90}, {98, 96, 94, 92}, {90, 85, 75, 70}};
        for (int h = 0; h < 4; h++) {
            x.run(1);
            for (int kind = 0; kind < 5; kind++) {
                int life = kind < 4 ? x.tier(0, kind, 3) : x.tier(1, 1, 3);
                CHECK.due("kind " + kind + " after hour " + h, life, due[kind][h]);
            }
            CHECK.due("ripe after hour " + h, x.tier(0, 2, 4), Math.max(0, 1 - h));
        }
    }

    private static void mixedBeginsAnew() {
        ColdLine x = Check.lineAt(150);
        x.price(1, 1);
        x.car(0, 10, 150);
        x.load(0, 40, 1, 100, 0, 150);
        x.send(0, 1);
        x.run(5);
        CHECK.due("twice, once, twice, once, twice", x.tier(0, 0, 3), 60);
        x.sell(0);
        x.load(0, 40, 1, 100, 0, 150);
        x.run(1);
        CHECK.due("the first hour of the next load", x.tier(0, 0, 3), 90);
    }

    private static void firmBelowHundred() {
        ColdLine x = Check.lineAt(99);
        x.car(0, 10, 99);
        x.load(0, 20, 1, 100, 1, 99);
        x.run(5);
        CHECK.due("99 takes no ripe hour", x.tier(0, 0, 4), 1);
        CHECK.due("nor life", x.tier(0, 0, 3), 100);
        ColdLine y = Check.lineAt(100);
        y.car(0, 10, 100);
        y.load(0, 20, 1, 100, 1, 100);
        y.run(1);
        CHECK.due("100 takes a ripe hour", y.tier(0, 0, 4), 0);
        CHECK.due("but no life", y.tier(0, 0, 3), 100);
        y.run(1);
        CHECK.due("then as LOAD", y.tier(0, 0, 3), 97);
    }

    private static int lossOf(int kind, int heat) {
        ColdLine x = Check.lineAt(heat);
        x.car(0, 1, heat);
        x.load(0, 10 * kind, 1, 1000, 1, heat);
        x.run(1);
        return 1000 - x.tier(0, 0, 3);
    }

    private static void bandsOfLoss() {
        int[] table = {1, 2, 3, 5, 8, 12, 18, 25, 35, 50};
        for (int b = 0; b < 10; b++) {
            CHECK.due("the first heat of band " + b, lossOf(0, b * 50), table[b]);
            CHECK.due("the last heat of band " + b, lossOf(0, b * 50 + 49), table[b]);
        }
        CHECK.due("500 is of band 9", lossOf(0, 500), 50);
        CHECK.due("-49 is of band 0", lossOf(0, -49), 1);
        CHECK.due("-400 is of band 0", lossOf(0, -400), 1);
        CHECK.due("WET at 109", lossOf(3, 109), 1);
        CHECK.due("WET at 110", lossOf(3, 110), 2);
        CHECK.due("WET at 500", lossOf(3, 500), 35);
        CHECK.due("SOFT at 500", lossOf(1, 500), 100);
        CHECK.due("MIXED at 500", lossOf(4, 500), 100);
    }

    private static void lifeEndsAtZero() {
        ColdLine x = Check.lineAt(150);
        x.car(0, 1, 150);
        x.load(0, 0, 1, 7, 0, 150);
        x.run(1);
        CHECK.due("7 less 5", x.tier(0, 0, 3), 2);
        x.run(1);
        CHECK.due("never below 0", x.tier(0, 0, 3), 0);
        x.run(10);
        CHECK.due("and stays", x.tier(0, 0, 3), 0);
        CHECK.due("its baskets are there", x.tier(0, 0, 2), 1);
    }

    private static void loadsLiveWithTheNewHeat() {
        ColdLine x = Check.lineAt(500);
        x.car(0, 40, 0);
        x.load(0, 0, 1, 100, 0, 0);
        x.run(1);
        CHECK.due("its heat", x.tier(0, 0, 0), 200);
        CHECK.due("its life", x.tier(0, 0, 3), 92);
    }

    private static void wayWithLateStations() {
        ColdLine x = new ColdLine();
        x.station(2);
        x.late(0, 2);
        x.late(1, 1);
        x.late(2, 5);
        x.car(0, 1, 0);
        x.send(0, 2);
        int[] station = {0, 0, 0, 0, 0, 0, 1, 1, 1, 1, 2};
        int[] leg = {0, 0, 4, 3, 2, 1, 0, 0, 2, 1, 0};
        int[] stand = {1, 0, 0, 0, 0, 0, 1, 0, 0, 0, 0};
        for (int h = 0; h < 11; h++) {
            CHECK.due("come in hour " + h, x.run(1), h == 10 ? 1 : 0);
            CHECK.due("station after hour " + h, x.look(0, 0), station[h]);
            CHECK.due("leg after hour " + h, x.look(0, 2), leg[h]);
            CHECK.due("stand after hour " + h, x.look(0, 3), stand[h]);
        }
        CHECK.due("it has come", x.look(0, 7), 1);
        CHECK.due("it doesn't go any more", x.look(0, 1), -1);
        x.send(0, 0);
        CHECK.due("sent back it stands", x.look(0, 3), 5);
        x.run(6);
        CHECK.due("then it sets out", x.look(0, 2), 2);
        CHECK.due("it comes through 1: 2 hours, 2 there, 4 hours", x.run(7), 0);
        CHECK.due("and comes", x.run(1), 1);
        CHECK.due("to 0", x.look(0, 0), 0);
    }

    private static void lateAsItIsThen() {
        ColdLine x = new ColdLine();
        x.station(1);
        x.car(0, 1, 0);
        x.send(0, 2);
        x.run(4);
        x.late(1, 7);
        x.run(1);
        CHECK.due("as late is when it comes", x.look(0, 3), 7);
        x.late(1, 0);
        CHECK.due("not as it is later", x.look(0, 3), 7);
    }

    private static void howOftenACarHasCome() {
        ColdLine x = new ColdLine();
        for (int c = 0; c < 3; c++) {
            x.car(0, 1, 0);
        }
        x.send(0, 1);
        x.run(1);
        x.send(1, 1);
        CHECK.due("one in 4 hours", x.run(4), 1);
        CHECK.due("one in the next", x.run(1), 1);
        CHECK.due("none then", x.run(200), 0);
    }
}
