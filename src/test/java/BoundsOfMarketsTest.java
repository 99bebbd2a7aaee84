/** The bounds that the document names for markets and claims: terms, part 4, and promises 23 to 26. */
public final class BoundsOfMarketsTest {
    private static final Check CHECK = new Check();
    private static final Bounds BUSY = new Bounds(CHECK, Bounds::busyLine);

    public static void main(String[] args) {
        sellIsRefused();
        soldOnlyOnce();
        eachLoadIsCut();
        leastAndMostPrice();
        fiveOfHundredIsCut();
        twentyThreeHoursBefore();
        hundredOfHundredAtMost();
        salesOfEachStation();
        loadsAreGoneThen();
        worthIsRefused();
        worthOnALeg();
        worthAtAStation();
        nothingChangesByWorth();
        worthWithoutOthers();
        worthOfTheOpenHour();
        worthOfTheLongestWay();
        worthAtTheLeastPrice();
        worthByTheHoursToCome();
        bestOfNone();
        bestOfEqualOnes();
        bestWithoutValue();
        claimParts();
        claimIsCutEachHour();
        claimOfAllFour();
        claimOfLifeThatIsLeft();
        claimBeginsWhenSent();
        claimOfTheLatestHourAtAStation();
        claimWhileItStands();
        CHECK.end();
    }

    // "BEYOND, NO: it has not COME, its STATION is no MARKET"
    private static void sellIsRefused() {
        BUSY.refused("it rests at no market", x -> x.sell(0), ColdLine.NO);
        BUSY.refused("on a leg", x -> x.sell(1), ColdLine.NO);
        BUSY.refused("at a market on its way", x -> x.sell(2), ColdLine.NO);
        BUSY.refused("it was sold", x -> x.sell(4), ColdLine.NO);
        BUSY.refused("no car", x -> x.sell(5), ColdLine.BEYOND);
        BUSY.refused("car -1", x -> x.sell(-1), ColdLine.BEYOND);
        Bounds noMarket = new Bounds(CHECK, () -> {
            ColdLine x = Bounds.busyLine();
            x.price(3, 0);
            return x;
        });
        noMarket.refused("come, but to no market", x -> x.sell(3), ColdLine.NO);
        BUSY.accepted("come to a market", x -> x.sell(3));
    }

    // "it has not COME any more"
    private static void soldOnlyOnce() {
        Bounds sold = new Bounds(CHECK, () -> {
            ColdLine x = Bounds.busyLine();
            x.sell(3);
            return x;
        });
        sold.refused("again", x -> x.sell(3), ColdLine.NO);
        sold.taken("it has not come", x -> x.look(3, 7), 0);
        sold.taken("it is where it was", x -> x.look(3, 0), 3);
        sold.taken("it doesn't go", x -> x.look(3, 1), ColdLine.NONE);
        sold.taken("two were sold", x -> x.count(7), 2);
    }

    /** Stations 1 and 2 are an hour apart; nothing is lost; markets have a price of 10. */
    private static ColdLine lossless() {
        ColdLine x = Bounds.lineOf(3);
        for (int b = 0; b < 10; b++) {
            x.loss(b, 0);
        }
        for (int s = 0; s < 3; s++) {
            x.price(s, 10);
        }
        return x;
    }

    private static int broughtBy(int price, int[][] loads) {
        ColdLine x = lossless();
        x.price(2, price);
        x.car(1, 1, 0);
        for (int t = 0; t < loads.length; t++) {
            x.load(0, t, loads[t][0], loads[t][1], 0, 0);
        }
        x.send(0, 2);
        x.run(2);
        return x.sell(0);
    }

    // "of each LOAD: BASKETS times LIFE times PRICE / 1000"
    private static void eachLoadIsCut() {
        CHECK.due("999", broughtBy(1, new int[][] {{1, 999}}), 0);
        CHECK.due("1000", broughtBy(1, new int[][] {{1, 1000}}), 1);
        CHECK.due("1999", broughtBy(1, new int[][] {{1, 1999}}), 1);
        CHECK.due("four times 999", broughtBy(1, new int[][] {{1, 999}, {1, 999}, {1, 999}, {1, 999}}), 0);
        CHECK.due("four times 1999", broughtBy(1, new int[][] {{1, 1999}, {1, 1999}, {1, 1999}, {1, 1999}}), 4);
        CHECK.due("no load", broughtBy(99, new int[][] {}), 0);
    }

    private static void leastAndMostPrice() {
        int[] most = {500, 10000};
        CHECK.due("price 1", broughtBy(1, new int[][] {most, most, most, most}), 20000);
        CHECK.due("price 99", broughtBy(99, new int[][] {most, most, most, most}), 1980000);
        CHECK.due("the least load", broughtBy(99, new int[][] {{1, 1}}), 0);
    }

    /** What car c brings at 2 after the others before it were sold there in the same hour. */
    private static int broughtAfter(int sales, int life) {
        ColdLine x = lossless();
        for (int c = 0; c <= sales; c++) {
            x.car(1, 1, 0);
            x.load(c, 0, 100, life, 0, 0);
            x.send(c, 2);
        }
        x.run(2);
        for (int c = 0; c < sales; c++) {
            x.sell(c);
        }
        return x.sell(sales);
    }

    // "of the sum 5 of 100 (cut) less for each CAR that was SOLD there"
    private static void fiveOfHundredIsCut() {
        CHECK.due("19: 0.95 is 0", broughtAfter(1, 19), 19);
        CHECK.due("20: 1", broughtAfter(1, 20), 19);
        CHECK.due("39: 1.95 is 1", broughtAfter(1, 39), 38);
        CHECK.due("40: 2", broughtAfter(1, 40), 38);
        for (int sales = 0; sales < 10; sales++) {
            CHECK.due(sales + " sales", broughtAfter(sales, 100), 100 - 5 * sales);
        }
    }

    // "in one of the 23 hours before the open one, or in that"
    private static void twentyThreeHoursBefore() {
        int[] hours = {0, 1, 22, 23, 24, 25, 47, 48, 49};
        for (int later : hours) {
            ColdLine x = lossless();
            for (int c = 0; c < 2; c++) {
                x.car(1, 1, 0);
                x.load(c, 0, 100, 100, 0, 0);
                x.send(c, 2);
            }
            x.run(2);
            CHECK.due("the first", x.sell(0), 100);
            if (later > 0) {
                x.run(later);
            }
            CHECK.due(later + " hours later", x.sell(1), later <= 23 ? 95 : 100);
        }
    }

    // "100 of 100 at most": ten cars go to 2 three times, in ten hours
    private static void hundredOfHundredAtMost() {
        ColdLine x = lossless();
        for (int c = 0; c < 10; c++) {
            x.car(1, 1, 0);
        }
        for (int sold = 0; sold < 30; sold++) {
            int car = sold % 10;
            if (car == 0) {
                sendAllToTwo(x, sold > 0);
            }
            int due = sold == 19 ? 5 : Math.max(0, 100 - 5 * sold);
            CHECK.due(sold + " sold before", x.sell(car), due);
        }
        CHECK.due("worth after 30", x.worth(0, 1), 0);
        x.load(0, 0, 500, 10000, 0, 0);
        x.send(0, 1);
        x.run(2);
        CHECK.due("none was sold at 1", x.sell(0), 50000);
        x.load(0, 0, 500, 10000, 0, 0);
        CHECK.due("nothing at 2, nor less", x.worth(0, 2), 0);
    }

    private static void sendAllToTwo(ColdLine x, boolean areThere) {
        for (int c = 0; areThere && c < 10; c++) {
            x.send(c, 1);
        }
        x.run(2);
        for (int c = 0; c < 10; c++) {
            x.load(c, 0, 100, 100, 0, 0);
            x.send(c, 2);
        }
        x.run(2);
    }

    private static void salesOfEachStation() {
        ColdLine x = lossless();
        for (int c = 0; c < 3; c++) {
            x.car(1, 1, 0);
            x.load(c, 0, 100, 100, 0, 0);
        }
        x.send(0, 2);
        x.send(1, 2);
        x.send(2, 0);
        x.run(5);
        CHECK.due("the first at 2", x.sell(0), 100);
        CHECK.due("the first at 0", x.sell(2), 100);
        CHECK.due("the second at 2", x.sell(1), 95);
        x.price(2, 0);
        x.price(2, 10);
        x.car(1, 1, 0);
        x.load(3, 0, 100, 100, 0, 0);
        CHECK.due("no market for a while: the sales still count", x.worth(3, 2), 90);
    }

    // "LOADS are gone then"
    private static void loadsAreGoneThen() {
        ColdLine x = lossless();
        x.car(1, 1, 0);
        for (int t = 0; t < 4; t++) {
            x.load(0, 20 + t, 100, 100, 9, 50);
        }
        x.send(0, 2);
        x.run(2);
        x.sell(0);
        for (int t = 0; t < 4; t++) {
            for (int what = 1; what <= 4; what++) {
                CHECK.due("tier " + t + ", " + what, x.tier(0, t, what), ColdLine.NONE);
            }
            CHECK.so("its heat stays", x.tier(0, t, 0) > 0);
        }
        x.send(0, 1);
        x.run(2);
        CHECK.due("it brings nothing any more", x.sell(0), 0);
        CHECK.due("but was sold twice", x.count(7), 2);
        CHECK.due("for", x.count(8), 400);
    }

    // "BEYOND, NO: that is no MARKET, it can't be SENT there, or TURNED"
    private static void worthIsRefused() {
        BUSY.refused("no car, no station", x -> x.worth(5, 4), ColdLine.BEYOND);
        BUSY.refused("no car", x -> x.worth(5, 3), ColdLine.BEYOND);
        BUSY.refused("no station", x -> x.worth(0, 4), ColdLine.BEYOND);
        BUSY.refused("station -1", x -> x.worth(0, -1), ColdLine.BEYOND);
        BUSY.refused("no market", x -> x.worth(0, 2), ColdLine.NO);
        BUSY.refused("it is at that market", x -> x.worth(3, 3), ColdLine.NO);
        BUSY.refused("it is at that, no market", x -> x.worth(0, 0), ColdLine.NO);
    }

    private static Bounds allMarkets(int hoursMore) {
        return new Bounds(CHECK, () -> {
            ColdLine x = Bounds.busyLine();
            for (int s = 0; s < 4; s++) {
                x.price(s, 50);
            }
            x.send(3, 0);
            if (hoursMore > 0) {
                x.run(hoursMore);
            }
            return x;
        });
    }

    private static void worthOnALeg() {
        Bounds up = allMarkets(0);
        up.refused("from which it leads", x -> x.worth(1, 0), ColdLine.NO);
        up.accepted("to which it leads", x -> x.worth(1, 1));
        up.accepted("further on", x -> x.worth(1, 2));
        up.accepted("the last", x -> x.worth(1, 3));
        Bounds down = allMarkets(1);
        down.taken("it is on the leg from 3 to 2", x -> x.look(3, 2), 1);
        down.refused("downwards: from which it leads", x -> x.worth(3, 3), ColdLine.NO);
        down.accepted("downwards: to which it leads", x -> x.worth(3, 2));
        down.accepted("downwards: the last", x -> x.worth(3, 0));
    }

    private static void worthAtAStation() {
        Bounds markets = allMarkets(0);
        markets.refused("it goes: where it is", x -> x.worth(2, 1), ColdLine.NO);
        markets.accepted("it goes: the other way", x -> x.worth(2, 0));
        markets.accepted("it goes: ahead", x -> x.worth(2, 2));
        markets.refused("it rests: where it is", x -> x.worth(0, 0), ColdLine.NO);
        markets.accepted("it rests: the next", x -> x.worth(0, 1));
        markets.refused("it was sold: where it is", x -> x.worth(4, 3), ColdLine.NO);
        markets.taken("it was sold: nothing to bring", x -> x.worth(4, 0), 0);
    }

    // "(nothing changes)"
    private static void nothingChangesByWorth() {
        for (int kind = 0; kind < Later.KINDS; kind++) {
            ColdLine x = Bounds.busyLine();
            for (int car = 0; car < 5; car++) {
                for (int end = 0; end < 4; end++) {
                    x.worth(car, end);
                }
                x.best(car);
            }
            String due = Later.answers(Bounds.busyLine(), kind);
            CHECK.so("as it was", Later.answers(x, kind).equals(due));
        }
    }

    /** Ten cars that all want the ice of station 0, with loads for station 1. */
    private static ColdLine tenAtTheStock(int cars) {
        ColdLine x = Check.lineAt(300);
        x.stock(0, 100);
        x.price(1, 50);
        Check.ruleOf(x, "fill 100 if station=0", 0, 100);
        for (int c = 0; c < cars; c++) {
            x.car(0, 10, 200);
            x.load(c, 0, 100, 1000, 0, 200);
        }
        return x;
    }

    // "all other CARS were not there": all of the stock and of the gang is for each
    private static void worthWithoutOthers() {
        int alone = tenAtTheStock(1).worth(0, 1);
        ColdLine x = tenAtTheStock(10);
        for (int c = 0; c < 10; c++) {
            CHECK.due("as if alone: " + c, x.worth(c, 1), alone);
        }
        ColdLine one = tenAtTheStock(1);
        one.send(0, 1);
        one.run(5);
        CHECK.due("what it brings", one.sell(0), alone);
        x.send(0, 1);
        x.run(1);
        CHECK.so("the stock is used up then", x.worth(9, 1) < alone);
    }

    // "as told above for the hour that is open now"
    private static void worthOfTheOpenHour() {
        ColdLine x = lossless();
        for (int c = 0; c < 2; c++) {
            x.car(1, 1, 0);
            x.load(c, 0, 100, 100, 0, 0);
        }
        x.send(0, 2);
        x.run(2);
        CHECK.due("none was sold", x.worth(1, 2), 100);
        x.sell(0);
        CHECK.due("one in the open hour", x.worth(1, 2), 95);
        x.run(23);
        CHECK.due("23 hours before, though it comes 2 hours later", x.worth(1, 2), 95);
        x.run(1);
        CHECK.due("24 hours before", x.worth(1, 2), 100);
        x.late(1, 48);
        x.send(1, 2);
        CHECK.due("sold in that hour or not, it is no sale of its own", x.worth(1, 2), 100);
    }

    private static void worthOfTheLongestWay() {
        ColdLine x = new ColdLine();
        for (int s = 2; s < 8; s++) {
            x.station(12);
        }
        for (int s = 0; s < 8; s++) {
            x.late(s, 48);
            x.weather(s, 0, 0);
        }
        x.price(7, 99);
        x.car(0, 1, 0);
        x.load(0, 0, 500, 10000, 0, 0);
        // 7 times 48 hours to stand and one to set out, and 4 + 6 * 12 of legs, a life of 1 each.
        int life = 10000 - (7 * 49 + 76);
        CHECK.due("worth", x.worth(0, 7), 500 * life * 99 / 1000);
        x.send(0, 7);
        CHECK.due("not come", x.run(200) + x.run(200) + x.run(7 * 49 + 75 - 400), 0);
        CHECK.due("come", x.run(1), 1);
        CHECK.due("what it brings", x.sell(0), 500 * life * 99 / 1000);
    }

    private static void worthAtTheLeastPrice() {
        ColdLine x = lossless();
        x.car(1, 1, 0);
        x.load(0, 0, 500, 10000, 0, 0);
        x.price(0, 0);
        x.price(2, 1);
        CHECK.due("price 1", x.worth(0, 2), 5000);
        CHECK.due("it is best", x.best(0), 2);
        CHECK.due("price 0", x.worth(0, 0), ColdLine.NO);
    }

    // "if it were SENT there (one that GOES: TURNED) now", and all hours were as they will be
    private static void worthByTheHoursToCome() {
        for (int hours = 0; hours < 60; hours += 3) {
            for (int car = 0; car < 4; car++) {
                for (int end = 0; end < 4; end++) {
                    worthAgainstTheHours(hours, car, end);
                }
            }
        }
    }

    /* The sale of car 4 at 3 in hour 3 counts by the hour in which worth is asked. */
    private static void worthAgainstTheHours(int hours, int car, int end) {
        ColdLine x = alone(hours, car);
        int worth = x.worth(car, end);
        if (worth < 0) {
            return;
        }
        boolean isAfterASale = end == 3 && x.count(0) <= 3 + 23;
        CHECK.so("it can go there", (x.look(car, 1) == ColdLine.NONE ? x.send(car, end) : x.turn(car, end)) > 0);
        for (int h = 0; h < 200 && x.look(car, 7) == 0; h++) {
            x.run(1);
        }
        int sum = 0;
        for (int t = 0; t < 4; t++) {
            sum += x.tier(car, t, 1) < 0 ? 0 : x.tier(car, t, 2) * x.tier(car, t, 3) * x.at(end, 2) / 1000;
        }
        int due = isAfterASale ? sum - sum * 5 / 100 : sum;
        CHECK.due("car " + car + " after " + hours + " hours at " + end, worth, due);
    }

    /** The busy line a while later, but only one of its cars has ice to get. */
    private static ColdLine alone(int hours, int car) {
        ColdLine x = Bounds.busyLine();
        x.wipe();
        Check.ruleOf(x, "fill 0", 0, 1000);
        Check.ruleOf(x, "fill 70 if car=" + car + " and ice<30", 0, 1000);
        Check.ruleOf(x, "vent 1 if heat<90 and car=" + car, 0, 1000);
        Check.ruleOf(x, "vent 0 if heat>110", 0, 1000);
        for (int s = 0; s < 4; s++) {
            x.price(s, 60 + s);
            x.late(s, s);
            x.weather(s, 20, 300 - 90 * s);
            x.weather(s, 30, 90 * s);
        }
        x.run(1 + hours);
        return x;
    }

    // "NONE: there is none. BEYOND."
    private static void bestOfNone() {
        Bounds noMarket = new Bounds(CHECK, () -> {
            ColdLine x = Bounds.busyLine();
            x.price(1, 0);
            x.price(3, 0);
            return x;
        });
        for (int car = 0; car < 5; car++) {
            int c = car;
            noMarket.taken("no market: " + car, x -> x.best(c), ColdLine.NONE);
        }
        Bounds onlyBehind = new Bounds(CHECK, () -> {
            ColdLine x = Bounds.busyLine();
            x.price(1, 0);
            x.price(3, 0);
            x.price(0, 9);
            return x;
        });
        onlyBehind.taken("only behind", x -> x.best(1), ColdLine.NONE);
        onlyBehind.taken("only where it is", x -> x.best(0), ColdLine.NONE);
        onlyBehind.taken("at a station it may go back", x -> x.best(2), 0);
        BUSY.refused("best(5)", x -> x.best(5), ColdLine.BEYOND);
        BUSY.refused("best(-1)", x -> x.best(-1), ColdLine.BEYOND);
    }

    // "The END with the greatest WORTH, of these the least"
    private static void bestOfEqualOnes() {
        ColdLine x = lossless();
        x.station(1);
        x.price(3, 10);
        x.car(1, 1, 0);
        x.load(0, 0, 100, 100, 0, 0);
        CHECK.due("all alike", x.best(0), 0);
        x.price(0, 9);
        CHECK.due("2 and 3 alike", x.best(0), 2);
        x.price(3, 11);
        CHECK.due("3 has more", x.best(0), 3);
        x.price(0, 99);
        CHECK.due("0 has most", x.best(0), 0);
    }

    /* A worth of 0 is a worth. */
    private static void bestWithoutValue() {
        ColdLine x = lossless();
        x.car(0, 1, 0);
        CHECK.due("an empty car", x.best(0), 1);
        x.price(1, 0);
        CHECK.due("the least that is a market", x.best(0), 2);
        x.price(2, 0);
        CHECK.due("none", x.best(0), ColdLine.NONE);
    }

    // "part 0 .. 2. BEYOND, NO."
    private static void claimParts() {
        BUSY.accepted("claim(1, 0)", x -> x.claim(1, 0));
        BUSY.accepted("claim(1, 1)", x -> x.claim(1, 1));
        BUSY.accepted("claim(1, 2)", x -> x.claim(1, 2));
        BUSY.refused("claim(1, -1)", x -> x.claim(1, -1), ColdLine.NO);
        BUSY.refused("claim(1, 3)", x -> x.claim(1, 3), ColdLine.NO);
        BUSY.refused("claim(1, MAX)", x -> x.claim(1, Integer.MAX_VALUE), ColdLine.NO);
        BUSY.refused("claim(1, MIN)", x -> x.claim(1, Integer.MIN_VALUE), ColdLine.NO);
        BUSY.refused("claim(5, 3): the car first", x -> x.claim(5, 3), ColdLine.BEYOND);
    }

    private static ColdLine claimed(int... baskets) {
        ColdLine x = Check.lineAt(0);
        x.car(0, 1, 0);
        for (int t = 0; t < baskets.length; t++) {
            x.load(0, t, baskets[t], 10000, 0, 0);
        }
        return x;
    }

    // "hour by hour: .. / 1000"
    private static void claimIsCutEachHour() {
        int[] losses = {1, 2, 3, 4};
        int[] due = {0, 1, 1, 2};
        for (int i = 0; i < losses.length; i++) {
            ColdLine x = claimed(500);
            x.loss(0, losses[i]);
            x.send(0, 1);
            x.run(5);
            CHECK.due("500 times " + losses[i] + ", five hours", x.claim(0, 2), 5 * due[i]);
        }
        ColdLine almost = claimed(333);
        almost.loss(0, 3);
        almost.send(0, 1);
        almost.run(200);
        CHECK.due("999 each hour", almost.claim(0, 2), 0);
    }

    // "the sum of all four / 1000"
    private static void claimOfAllFour() {
        ColdLine x = claimed(250, 250, 250, 249);
        x.send(0, 1);
        x.run(1);
        CHECK.due("999 of all four", x.claim(0, 2), 0);
        ColdLine y = claimed(250, 250, 250, 250);
        y.send(0, 1);
        y.run(1);
        CHECK.due("1000 of all four", y.claim(0, 2), 1);
        ColdLine most = claimed();
        most.loss(0, 999);
        for (int t = 0; t < 4; t++) {
            most.load(0, 10 + t, 500, 10000, 0, 0);
        }
        most.send(0, 1);
        most.run(1);
        CHECK.due("the most", most.claim(0, 2), 3996);
    }

    // "LIFE that each of its LOADS lost in it": no more than it had
    private static void claimOfLifeThatIsLeft() {
        ColdLine x = Check.lineAt(0);
        x.loss(0, 7);
        x.car(0, 1, 0);
        x.load(0, 0, 500, 10, 0, 0);
        x.send(0, 1);
        x.run(1);
        CHECK.due("7 of 10", x.claim(0, 2), 3);
        x.run(1);
        CHECK.due("the last 3", x.claim(0, 2), 4);
        x.run(3);
        CHECK.due("none is left", x.claim(0, 2), 4);
    }

    // "from the hour on in which a CAR was SENT (the latest time)"
    private static void claimBeginsWhenSent() {
        ColdLine x = claimed(500, 500);
        x.run(3);
        CHECK.due("not before", x.claim(0, 2), 0);
        x.send(0, 1);
        CHECK.due("sent", x.claim(0, 2), 0);
        x.run(1);
        CHECK.due("the hour in which it was sent", x.claim(0, 2), 1);
        x.turn(0, 1);
        CHECK.due("turned, it goes on", x.claim(0, 2), 1);
        x.run(4);
        CHECK.due("come", x.claim(0, 2), 5);
        CHECK.due("a refused send", x.send(0, 1), ColdLine.NO);
        CHECK.due("leaves it", x.claim(0, 2), 5);
        x.send(0, 0);
        CHECK.due("the latest time", x.claim(0, 2), 0);
    }

    private static void claims(String when, ColdLine x, int part0, int part1, int part2) {
        CHECK.due(when + ": part 0", x.claim(0, 0), part0);
        CHECK.due(when + ": part 1", x.claim(0, 1), part1);
        CHECK.due(when + ": part 2", x.claim(0, 2), part2);
    }

    // "to part 0, if some ICE was SHORT in the latest hour in which it was AT a STATION (this one with it)"
    private static void claimOfTheLatestHourAtAStation() {
        ColdLine x = claimed(500, 500);
        x.late(0, 2);
        x.stock(0, 100);
        x.gang(0, 10);
        Check.ruleOf(x, "fill 11 if station=0", 0, 2);
        x.send(0, 1);
        x.run(1);
        claims("one is short in this hour", x, 1, 0, 0);
        x.run(1);
        claims("none is short, it stands", x, 1, 1, 0);
        x.run(1);
        claims("it sets out", x, 1, 1, 1);
        x.run(4);
        claims("the leg, none short before", x, 1, 1, 5);

        ColdLine y = claimed(500, 500);
        y.station(1);
        Check.ruleOf(y, "fill 1", 0, 1);
        y.send(0, 2);
        y.run(5);
        claims("short in the hour of setting out, the leg with it", y, 5, 0, 0);
        y.run(1);
        claims("at the next station none is short", y, 5, 0, 1);
    }

    // "else to part 1, if it is AT a STATION in this hour and has to STAND more; else to part 2"
    private static void claimWhileItStands() {
        ColdLine x = claimed(500, 500);
        x.station(1);
        x.late(0, 1);
        x.late(1, 2);
        x.late(2, 9);
        x.send(0, 2);
        int[][] due = {{1, 0}, {1, 1}, {1, 2}, {1, 3}, {1, 4}, {1, 5}, {2, 5}, {3, 5}, {3, 6}, {3, 7}, {3, 8}};
        for (int h = 0; h < due.length; h++) {
            x.run(1);
            claims("after hour " + h, x, 0, due[h][0], due[h][1]);
        }
        CHECK.due("it has come to 2", x.look(0, 7), 1);
    }
}
