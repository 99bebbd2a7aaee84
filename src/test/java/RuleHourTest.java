/** What rules do in an hour (terms, part 3; promises 21 and 22). */
public final class RuleHourTest {
    private static final Check CHECK = new Check();

    public static void main(String[] args) {
        gangAndStock();
        gangAndHand();
        noMoreThanHundred();
        nothingWanted();
        greatestNumberOfEachKey();
        hoursInForce();
        ventInTheSameHour();
        fillBeforeUse();
        tests();
        testsAreAllSo();
        greatestHeat();
        outsideIsOfTheHour();
        notOnALeg();
        ruleAfterAFault();
        tenRules();
        CHECK.end();
    }

    /** A line without heat, so that no ice is used, with cars at station 0. */
    private static ColdLine coldCars(int cars, int stock) {
        ColdLine x = Check.lineAt(0);
        for (int c = 0; c < cars; c++) {
            x.car(0, 10, 0);
        }
        x.stock(0, stock);
        return x;
    }

    private static void gangAndStock() {
        ColdLine x = coldCars(2, 30);
        x.gang(0, 20);
        Check.ruleOf(x, "fill 100", 0, 9);
        x.run(1);
        CHECK.due("the gang's 20", x.look(0, 4), 20);
        CHECK.due("80 are short", x.look(0, 6), 80);
        CHECK.due("none for the next", x.look(1, 4), 0);
        CHECK.due("100 are short", x.look(1, 6), 100);
        CHECK.due("the stock", x.at(0, 0), 10);
        x.run(1);
        CHECK.due("the stock's 10", x.look(0, 4), 30);
        CHECK.due("70 more are short", x.look(0, 6), 150);
        CHECK.due("none for the next again", x.look(1, 6), 200);
        CHECK.due("no stock", x.at(0, 0), 0);
        CHECK.due("put in", x.count(5), 30);
    }

    private static void gangAndHand() {
        ColdLine x = coldCars(1, 100);
        x.gang(0, 20);
        Check.ruleOf(x, "fill 100", 0, 9);
        x.fill(0, 15);
        x.run(1);
        CHECK.due("by hand is not by the gang", x.look(0, 4), 35);
        CHECK.due("both are put in", x.count(5), 35);
        x.gang(0, 0);
        x.run(1);
        CHECK.due("no gang", x.look(0, 4), 35);
        CHECK.due("short", x.look(0, 6), 65 + 65);
    }

    private static void noMoreThanHundred() {
        ColdLine x = coldCars(1, 500);
        Check.ruleOf(x, "fill 999", 0, 9);
        x.run(1);
        CHECK.due("100 at most", x.look(0, 4), 100);
        CHECK.due("none is short", x.look(0, 6), 0);
    }

    private static void nothingWanted() {
        ColdLine x = coldCars(1, 60);
        Check.ruleOf(x, "fill 5", 0, 9);
        x.fill(0, 50);
        x.run(1);
        CHECK.due("it has more", x.look(0, 4), 50);
        CHECK.due("none is short", x.look(0, 6), 0);
    }

    private static void greatestNumberOfEachKey() {
        ColdLine x = coldCars(2, 500);
        Check.ruleOf(x, "fill 50", 0, 9);
        Check.ruleOf(x, "vent 0", 0, 9);
        Check.ruleOf(x, "fill 10", 0, 9);
        Check.ruleOf(x, "fill 20 if car=1", 0, 9);
        Check.ruleOf(x, "vent 7 if car=1", 0, 9);
        x.vent(0, 1);
        x.run(1);
        CHECK.due("car 0: the last that holds", x.look(0, 4), 10);
        CHECK.due("car 1: the last of all", x.look(1, 4), 20);
        CHECK.due("car 0: shut", x.look(0, 5), 0);
        CHECK.due("car 1: open", x.look(1, 5), 1);
    }

    private static void hoursInForce() {
        ColdLine x = coldCars(1, 0);
        Check.ruleOf(x, "vent 1", 2, 4);
        int[] due = {0, 0, 1, 1, 0};
        for (int h = 0; h < 5; h++) {
            x.vent(0, 0);
            x.run(1);
            CHECK.due("vent in hour " + h, x.look(0, 5), due[h]);
        }
    }

    private static void ventInTheSameHour() {
        ColdLine x = Check.lineAt(100);
        x.car(0, 10, 0);
        Check.ruleOf(x, "vent 1", 0, 9);
        x.run(1);
        CHECK.due("25 of 100", x.tier(0, 0, 0), 25);
    }

    private static void fillBeforeUse() {
        ColdLine x = Check.lineAt(150);
        x.car(0, 10, 150);
        x.stock(0, 100);
        Check.ruleOf(x, "fill 100", 0, 9);
        x.run(1);
        CHECK.due("6 of 100 are used at once", x.look(0, 4), 94);
        x.stock(0, 100);
        x.run(1);
        CHECK.due("6 come again, 5 go", x.look(0, 4), 95);
        CHECK.due("put in", x.count(5), 106);
        CHECK.due("used", x.count(6), 11);
    }

    private static boolean vents(String test) {
        ColdLine x = new ColdLine();
        x.weather(1, 0, -30);
        x.car(0, 1, 0);
        x.car(1, 1, 40);
        x.stock(1, 50);
        x.fill(1, 25);
        StringBuilder text = new StringBuilder("vent 1 if car=1 and ");
        Check.ruleOf(x, text.append(test).toString(), 0, 9);
        x.run(1);
        return x.look(1, 5) == 1;
    }

    private static void tests() {
        String[] so = {"ice=25", "ice<26", "ice>24", "heat=40", "heat<41", "heat>39", "heat>-40", "out=-30", "out<-29",
            "out>-31", "station=1", "station>0", "station<2", "station=001", "car>-1", "car<2"};
        String[] not = {"ice=24", "ice<25", "ice>25", "heat=39", "heat<40", "heat>40", "heat=-40", "out=30", "out<-30",
            "out>-30", "station=0", "station>1", "station<1", "station=-1", "car>1", "car<1"};
        for (String test : so) {
            CHECK.so(test, vents(test));
        }
        for (String test : not) {
            CHECK.so("not " + test, !vents(test));
        }
    }

    private static void testsAreAllSo() {
        CHECK.so("two", vents("ice=25 and heat=40"));
        CHECK.so("the first not", !vents("ice=26 and heat=40"));
        CHECK.so("the second not", !vents("ice=25 and heat=41"));
    }

    private static void greatestHeat() {
        for (int t = 0; t < 4; t++) {
            ColdLine x = Check.lineAt(0);
            x.car(0, 1, -50);
            x.load(0, t, 1, 100, 0, -7);
            Check.ruleOf(x, "vent 1 if heat=-7", 0, 9);
            x.run(1);
            CHECK.due("the greatest of its heats is that of tier " + t, x.look(0, 5), 1);
        }
    }

    private static void ruleAfterAFault() {
        ColdLine x = coldCars(1, 100);
        Check.ruleOf(x, "vent 1 if ice=9 and ice=8 and ice", 0, 9);
        x.run(1);
        CHECK.due("a text with a fault does nothing", x.look(0, 5), 0);
        Check.ruleOf(x, "fill 7", 0, 9);
        x.run(1);
        CHECK.due("the next rule has none of its tests", x.look(0, 4), 7);
    }

    private static void tenRules() {
        ColdLine x = coldCars(1, 100);
        for (int r = 0; r < 10; r++) {
            StringBuilder text = new StringBuilder("fill 1").append(r);
            Check.ruleOf(x, text.toString(), 0, 10 - r);
        }
        x.run(1);
        CHECK.due("the last of ten", x.look(0, 4), 19);
    }

    private static void outsideIsOfTheHour() {
        ColdLine x = new ColdLine();
        x.weather(0, 0, 10);
        x.weather(0, 3, 20);
        x.car(0, 1, 0);
        Check.ruleOf(x, "vent 1 if out=20", 0, 99);
        x.run(3);
        CHECK.due("before hour 3", x.look(0, 5), 0);
        x.run(1);
        CHECK.due("in hour 3", x.look(0, 5), 1);
    }

    private static void notOnALeg() {
        ColdLine x = coldCars(1, 100);
        x.send(0, 1);
        x.run(1);
        Check.ruleOf(x, "fill 10", 0, 99);
        Check.ruleOf(x, "vent 1", 0, 99);
        x.stock(1, 100);
        x.run(4);
        CHECK.due("no ice on the leg", x.look(0, 4), 0);
        CHECK.due("nothing short", x.look(0, 6), 0);
        CHECK.due("no vent on the leg", x.look(0, 5), 0);
        CHECK.due("it has come", x.look(0, 7), 1);
        x.run(1);
        CHECK.due("ice at the station", x.look(0, 4), 10);
        CHECK.due("vent at the station", x.look(0, 5), 1);
        CHECK.due("of the station's stock", x.at(1, 0), 90);
    }
}
