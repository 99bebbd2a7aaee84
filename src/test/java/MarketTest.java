/** Promises 23 to 26: sell, worth, best and claim. */
public final class MarketTest {
    private static final Check CHECK = new Check();

    public static void main(String[] args) {
        sellIsRefused();
        sumOfLoads();
        soldIsEmpty();
        eachSaleTakesFive();
        aDayOfSales();
        salesADayApart();
        hundredAtMost();
        salesElsewhere();
        worthIsRefused();
        worthOfASentCar();
        worthOfATurnedCar();
        worthWithoutTheOthers();
        worthAfterSales();
        best();
        bestOfEight();
        claimParts();
        claimIsCut();
        claimOfShortIce();
        claimBeginsAnew();
        CHECK.end();
    }

    /** Station 2 is one hour behind station 1, and loads lose nothing. */
    private static ColdLine lossless() {
        ColdLine x = new ColdLine();
        x.station(1);
        for (int b = 0; b < 10; b++) {
            x.loss(b, 0);
        }
        return x;
    }

    private static void bring(ColdLine x, int car, int end) {
        x.send(car, end);
        x.run(2);
    }

    private static void sellIsRefused() {
        ColdLine x = lossless();
        CHECK.due("no car", x.sell(0), -3);
        x.car(1, 1, 0);
        x.price(1, 10);
        CHECK.due("it has not come", x.sell(0), -7);
        bring(x, 0, 2);
        CHECK.due("no market", x.sell(0), -7);
        x.price(2, 10);
        CHECK.due("an empty car", x.sell(0), 0);
        CHECK.due("it has not come any more", x.sell(0), -7);
        CHECK.due("one was sold", x.count(7), 1);
    }

    private static void sumOfLoads() {
        ColdLine x = lossless();
        x.price(2, 7);
        x.car(1, 1, 0);
        x.load(0, 0, 3, 333, 0, 0);
        x.load(0, 11, 3, 333, 0, 0);
        x.load(0, 33, 500, 10000, 0, 0);
        bring(x, 0, 2);
        CHECK.due("each load is cut", x.sell(0), 6 + 6 + 35000);
        CHECK.due("what they brought", x.count(8), 35012);
    }

    private static void soldIsEmpty() {
        ColdLine x = lossless();
        x.price(2, 99);
        x.car(1, 1, 0);
        for (int t = 0; t < 4; t++) {
            x.load(0, t, 500, 10000, 0, 5);
        }
        bring(x, 0, 2);
        CHECK.due("the greatest sum", x.sell(0), 1980000);
        for (int t = 0; t < 4; t++) {
            CHECK.due("no load on " + t, x.tier(0, t, 1), -1);
            CHECK.due("nor life on " + t, x.tier(0, t, 3), -1);
        }
        CHECK.due("not come", x.look(0, 7), 0);
        CHECK.due("it is there", x.look(0, 0), 2);
        CHECK.due("it may be loaded", x.load(0, 0, 1, 1, 0, 0), 1);
    }

    private static void eachSaleTakesFive() {
        ColdLine x = lossless();
        x.price(2, 11);
        for (int c = 0; c < 4; c++) {
            x.car(1, 1, 0);
            x.load(c, 0, 100, 100, 0, 0);
            x.send(c, 2);
        }
        x.run(2);
        CHECK.due("110", x.sell(0), 110);
        CHECK.due("5 of 100 are 5.5", x.sell(1), 105);
        CHECK.due("10 of 100 are 11", x.sell(2), 99);
        CHECK.due("15 of 100 are 16.5", x.sell(3), 94);
        CHECK.due("in all", x.count(8), 408);
    }

    private static int secondSaleAfter(int hours) {
        ColdLine x = lossless();
        x.price(2, 10);
        for (int c = 0; c < 2; c++) {
            x.car(1, 1, 0);
            x.load(c, 0, 100, 100, 0, 0);
            x.send(c, 2);
        }
        x.run(2);
        x.sell(0);
        if (hours > 0) {
            x.run(hours);
        }
        return x.sell(1);
    }

    private static void aDayOfSales() {
        CHECK.due("in the same hour", secondSaleAfter(0), 95);
        CHECK.due("an hour later", secondSaleAfter(1), 95);
        CHECK.due("23 hours later", secondSaleAfter(23), 95);
        CHECK.due("24 hours later", secondSaleAfter(24), 100);
        CHECK.due("48 hours later", secondSaleAfter(48), 100);
    }

    /* With every hour of a day for the first sale. */
    private static void salesADayApart() {
        for (int first = 0; first < 30; first++) {
            ColdLine x = lossless();
            x.price(2, 10);
            for (int c = 0; c < 4; c++) {
                x.car(1, 1, 0);
                x.load(c, 0, 100, 100, 0, 0);
                x.send(c, 2);
            }
            x.run(2 + first);
            String call = "first sold in hour " + (2 + first);
            CHECK.due(call, x.sell(0), 100);
            x.run(23);
            CHECK.due(call + ", 23 hours later", x.sell(1), 95);
            x.run(1);
            CHECK.due(call + ", 24 hours later", x.sell(2), 95);
            CHECK.due(call + ", and one more", x.sell(3), 90);
        }
    }

    private static void hundredAtMost() {
        ColdLine x = lossless();
        x.price(2, 10);
        for (int c = 0; c < 10; c++) {
            x.car(1, 1, 0);
        }
        for (int round = 0; round < 3; round++) {
            for (int c = 0; c < 10; c++) {
                x.load(c, 0, 100, 100, 0, 0);
                x.send(c, 2);
            }
            x.run(2);
            for (int c = 0; c < 10; c++) {
                int sold = 10 * round + c;
                CHECK.due("after " + sold + " sales", x.sell(c), Math.max(0, 100 - 5 * sold));
                x.send(c, 1);
            }
            x.run(2);
        }
        CHECK.due("CARS that were SOLD", x.count(7), 30);
    }

    private static void salesElsewhere() {
        ColdLine x = lossless();
        x.price(1, 10);
        x.price(2, 10);
        x.car(1, 1, 0);
        x.car(2, 1, 0);
        x.load(0, 0, 100, 100, 0, 0);
        x.load(1, 0, 100, 100, 0, 0);
        x.send(0, 2);
        x.send(1, 1);
        x.run(2);
        CHECK.due("at 2", x.sell(0), 100);
        CHECK.due("at 1", x.sell(1), 100);
    }

    private static void worthIsRefused() {
        ColdLine x = lossless();
        CHECK.due("no car", x.worth(0, 0), -3);
        x.car(1, 1, 0);
        CHECK.due("no end", x.worth(0, 3), -3);
        CHECK.due("end -1", x.worth(0, -1), -3);
        CHECK.due("no market", x.worth(0, 2), -7);
        for (int s = 0; s < 3; s++) {
            x.price(s, 1);
        }
        CHECK.due("it is at that", x.worth(0, 1), -7);
        CHECK.due("a market", x.worth(0, 2), 0);
        x.send(0, 2);
        CHECK.due("it goes, and is at that", x.worth(0, 1), -7);
        CHECK.due("it may turn", x.worth(0, 0), 0);
        x.run(1);
        CHECK.due("on a leg: behind", x.worth(0, 0), -7);
        CHECK.due("on a leg: from", x.worth(0, 1), -7);
        CHECK.due("on a leg: ahead", x.worth(0, 2), 0);
        CHECK.due("NO of worth", x.status(-7), 5);
        CHECK.due("BEYOND of worth", x.status(-3), 3);
    }

    private static void worthOfASentCar() {
        ColdLine x = Check.lineAt(150);
        x.price(1, 10);
        x.late(0, 3);
        x.late(1, 40);
        x.car(0, 1, 150);
        x.load(0, 0, 100, 1000, 0, 150);
        // 3 hours to stand, one to set out, 4 of the leg, at 5 each: 960 left.
        CHECK.due("worth", x.worth(0, 1), 960);
        CHECK.due("nothing changed: heat", x.tier(0, 0, 0), 150);
        CHECK.due("nothing changed: life", x.tier(0, 0, 3), 1000);
        CHECK.due("nothing changed: end", x.look(0, 1), -1);
        CHECK.due("nothing changed: stand", x.look(0, 3), 0);
        CHECK.due("nothing changed: hour", x.count(0), 0);
        x.send(0, 1);
        x.late(0, 0);
        x.run(2);
        CHECK.due("on its way", x.worth(0, 1), 960);
        x.run(6);
        CHECK.due("it brings that", x.sell(0), 960);
    }

    private static void worthOfATurnedCar() {
        ColdLine x = Check.lineAt(150);
        x.station(2);
        x.weather(2, 0, 150);
        x.late(0, 9);
        x.late(1, 4);
        x.price(1, 10);
        x.price(2, 10);
        x.price(0, 10);
        x.car(0, 1, 150);
        x.load(0, 0, 100, 1000, 0, 150);
        x.send(0, 1);
        x.run(3);
        // 985 is left; to station 1: 6 hours to stand, one to set out, 4 of the leg.
        CHECK.due("it has to stand 6 more", x.look(0, 3), 6);
        CHECK.due("to 1", x.worth(0, 1), 985 - 5 * 11);
        CHECK.due("through 1: 4 more there, 1 to set out, 2", x.worth(0, 2), 985 - 5 * 18);
        x.run(7);
        CHECK.due("on the leg", x.look(0, 2), 4);
        CHECK.due("on the leg to 2", x.worth(0, 2), 950 - 5 * 11);
        x.late(1, 0);
        CHECK.due("late as it is now", x.worth(0, 2), 950 - 5 * 7);
        CHECK.due("its end stays", x.look(0, 1), 1);
    }

    private static void worthWithoutTheOthers() {
        ColdLine x = Check.lineAt(150);
        x.price(1, 10);
        x.stock(0, 100);
        for (int c = 0; c < 2; c++) {
            x.car(0, 1, 150);
            x.load(c, 0, 100, 1000, 0, 150);
            x.send(c, 1);
        }
        ColdLine alone = Check.lineAt(150);
        alone.price(1, 10);
        alone.stock(0, 100);
        alone.car(0, 1, 150);
        alone.load(0, 0, 100, 1000, 0, 150);
        alone.send(0, 1);
        Check.ruleOf(x, "fill 100 if station=0", 0, 99);
        Check.ruleOf(alone, "fill 100 if station=0", 0, 99);
        int worth = x.worth(1, 1);
        CHECK.due("the stock stays", x.at(0, 0), 100);
        CHECK.due("nothing put in", x.count(5), 0);
        CHECK.due("nothing used", x.count(6), 0);
        alone.run(5);
        CHECK.due("as if it were alone", alone.sell(0), worth);
        x.run(5);
        CHECK.due("the first has all ice", x.sell(0), worth);
        CHECK.so("the second has none", x.sell(1) < worth);
    }

    private static void worthAfterSales() {
        ColdLine x = lossless();
        x.price(2, 10);
        for (int c = 0; c < 3; c++) {
            x.car(c == 2 ? 0 : 1, 1, 0);
            x.load(c, 0, 100, 100, 0, 0);
        }
        x.send(0, 2);
        x.send(1, 2);
        x.run(2);
        CHECK.due("no sale yet", x.worth(2, 2), 100);
        x.sell(0);
        x.sell(1);
        CHECK.due("two sales", x.worth(2, 2), 90);
        x.run(23);
        CHECK.due("as of the open hour, not of that in which it comes", x.worth(2, 2), 90);
        x.run(1);
        CHECK.due("a day later", x.worth(2, 2), 100);
    }

    private static void best() {
        ColdLine x = lossless();
        CHECK.due("no car", x.best(0), -3);
        CHECK.due("car -1", x.best(-1), -3);
        x.car(1, 1, 0);
        CHECK.due("no market", x.best(0), -1);
        x.price(1, 99);
        CHECK.due("only where it is", x.best(0), -1);
        x.price(0, 10);
        x.price(2, 10);
        CHECK.due("nothing to sell: the least", x.best(0), 0);
        x.load(0, 0, 100, 100, 0, 0);
        CHECK.due("the same: the least", x.best(0), 0);
        x.price(2, 11);
        CHECK.due("the greatest", x.best(0), 2);
        x.send(0, 0);
        x.run(1);
        CHECK.due("on a leg only what is ahead", x.best(0), 0);
        CHECK.due("refused only by BEYOND", x.status(-7), 0);
    }

    private static void bestOfEight() {
        ColdLine x = lossless();
        for (int s = 3; s < 8; s++) {
            x.station(12);
        }
        for (int s = 0; s < 8; s++) {
            x.late(s, 48);
            x.price(s, 10 + s);
        }
        x.car(0, 1, 0);
        x.load(0, 0, 100, 100, 0, 0);
        CHECK.due("the last of eight, the longest way", x.best(0), 7);
        CHECK.due("its worth", x.worth(0, 7), 170);
        x.price(8, 99);
        x.price(7, 0);
        CHECK.due("the one ahead of it", x.best(0), 6);
    }

    private static ColdLine claimed() {
        ColdLine x = Check.lineAt(150);
        x.car(0, 1, 150);
        x.load(0, 0, 300, 1000, 0, 150);
        x.load(0, 1, 300, 1000, 0, 150);
        return x;
    }

    private static void claims(String when, ColdLine x, int part0, int part1, int part2) {
        CHECK.due(when + ": part 0", x.claim(0, 0), part0);
        CHECK.due(when + ": part 1", x.claim(0, 1), part1);
        CHECK.due(when + ": part 2", x.claim(0, 2), part2);
    }

    private static void claimParts() {
        ColdLine x = claimed();
        CHECK.due("no car", x.claim(1, 9), -3);
        CHECK.due("part 3", x.claim(0, 3), -7);
        CHECK.due("part -1", x.claim(0, -1), -7);
        x.late(0, 2);
        x.run(2);
        claims("before it is sent", x, 0, 0, 0);
        x.send(0, 1);
        x.run(1);
        claims("it stands", x, 0, 3, 0);
        x.run(1);
        claims("it stands the last hour", x, 0, 6, 0);
        x.run(1);
        claims("it sets out", x, 0, 6, 3);
        x.run(4);
        claims("it comes", x, 0, 6, 15);
        x.run(1);
        claims("it has come", x, 0, 6, 18);
    }

    private static int claimOfAnHour(int baskets) {
        ColdLine x = Check.lineAt(100);
        x.car(0, 1, 100);
        x.load(0, 1, baskets, 1000, 0, 100);
        x.send(0, 1);
        x.run(1);
        return x.claim(0, 2);
    }

    private static void claimIsCut() {
        CHECK.due("333 times 3", claimOfAnHour(333), 0);
        CHECK.due("334 times 3", claimOfAnHour(334), 1);
    }

    private static void claimOfShortIce() {
        ColdLine x = claimed();
        x.late(0, 1);
        Check.ruleOf(x, "fill 100 if station=0", 0, 99);
        x.send(0, 1);
        x.run(1);
        claims("short, though it stands", x, 3, 0, 0);
        x.run(5);
        claims("short at the latest station", x, 18, 0, 0);
        x.run(1);
        claims("not short at the next", x, 18, 0, 3);
    }

    private static void claimBeginsAnew() {
        ColdLine x = claimed();
        x.send(0, 1);
        x.run(5);
        claims("first", x, 0, 0, 15);
        x.send(0, 0);
        claims("sent again", x, 0, 0, 0);
        x.run(1);
        x.turn(0, 0);
        claims("turned, nothing begins", x, 0, 0, 3);
    }
}
