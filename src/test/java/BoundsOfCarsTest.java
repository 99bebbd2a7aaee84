/** The bounds that the document names for cars and loads: terms, part 1, and promises 10 to 18. */
public final class BoundsOfCarsTest {
    private static final Check CHECK = new Check();
    private static final Bounds BUSY = new Bounds(CHECK, Bounds::busyLine);

    public static void main(String[] args) {
        leakOneToForty();
        heatOfACar();
        tenCars();
        numbersOfCars();
        aNewCar();
        tiersAndKindsThatAreTold();
        basketsOneToFiveHundred();
        lifeOneToTenThousand();
        ripeOfFirm();
        ripeOfOthers();
        heatOfALoad();
        loadOnACarThatGoes();
        loadOnATierThatHasOne();
        firstRefusalOfALoad();
        tiersOfACar();
        whatOfATier();
        ripeHoursThatAreLeft();
        aLoadWithoutLife();
        fillByHand();
        fillHundredTogether();
        fillFromTheStock();
        fillOnALeg();
        ventShutOrOpen();
        sendIsRefused();
        sendToBothEnds();
        turnIsRefusedAtRest();
        turnOnALeg();
        turnAtAStation();
        whatOfACar();
        CHECK.end();
    }

    // "LEAK (1 .. 40)"
    private static void leakOneToForty() {
        BUSY.edges("car(3, leak, 0)", (x, v) -> x.car(3, v, 0), Bounds.at(1, 5), Bounds.at(40, 5), ColdLine.NO);
        for (int leak = 1; leak <= 40; leak += 39) {
            ColdLine x = Check.lineAt(500);
            x.car(0, leak, 0);
            x.run(1);
            CHECK.due("leak " + leak, x.tier(0, 3, 0), 5 * leak);
            x.vent(0, 1);
            x.run(1);
            CHECK.due("with the vent " + leak, x.tier(0, 3, 0), 5 * leak + (500 - 5 * leak) * (leak + 15) / 100);
        }
    }

    // "all TIERS at a HEAT (-400 .. 500)"
    private static void heatOfACar() {
        BUSY.edges("car(3, 1, heat)", (x, v) -> x.car(3, 1, v), Bounds.at(-400, 5), Bounds.at(500, 5), ColdLine.NO);
        BUSY.refused("car(4, 0, 0): the station first", x -> x.car(4, 0, 501), ColdLine.BEYOND);
    }

    private static ColdLine withCars(int n) {
        ColdLine x = new ColdLine();
        for (int c = 0; c < n; c++) {
            x.car(c % 2, 1 + c, c);
        }
        return x;
    }

    // "CARS 0 .. 9 as they come"; "BEYOND, NO: LEAK, HEAT; FULL."
    private static void tenCars() {
        for (int n = 0; n < 10; n++) {
            int cars = n;
            new Bounds(CHECK, () -> withCars(cars)).taken("car " + n, x -> x.car(0, 1, 0), n);
        }
        Bounds full = new Bounds(CHECK, () -> withCars(10));
        full.refused("an eleventh car", x -> x.car(0, 1, 0), ColdLine.FULL);
        full.refused("an eleventh car, leak 41", x -> x.car(0, 41, 0), ColdLine.NO);
        full.refused("an eleventh car, leak 0", x -> x.car(0, 0, 0), ColdLine.NO);
        full.refused("an eleventh car, heat 501", x -> x.car(0, 1, 501), ColdLine.NO);
        full.refused("an eleventh car, heat -401", x -> x.car(0, 1, -401), ColdLine.NO);
        full.refused("an eleventh car at 2", x -> x.car(2, 0, 501), ColdLine.BEYOND);
    }

    private static void numbersOfCars() {
        int[] counts = {0, 1, 10};
        for (int n : counts) {
            Bounds line = new Bounds(CHECK, () -> withCars(n));
            everyCallWithACar(line, n, false);
            everyCallWithACar(line, -1, false);
            everyCallWithACar(line, Integer.MAX_VALUE, false);
            everyCallWithACar(line, Integer.MIN_VALUE, false);
            if (n > 0) {
                everyCallWithACar(line, 0, true);
                everyCallWithACar(line, n - 1, true);
            }
        }
    }

    private static void everyCallWithACar(Bounds line, int c, boolean isThere) {
        withACar(line, "load", c, isThere, x -> x.load(c, 0, 1, 1, 0, 0));
        withACar(line, "vent", c, isThere, x -> x.vent(c, 1));
        withACar(line, "look", c, isThere, x -> x.look(c, 0));
        withACar(line, "send", c, isThere, x -> x.send(c, c % 2 == 0 ? 1 : 0));
        withACar(line, "best", c, isThere, x -> x.best(c));
        withACar(line, "claim", c, isThere, x -> x.claim(c, 0));
        if (isThere) {
            line.accepted("tier of " + c, x -> x.tier(c, 0, 0));
            line.refused("fill of " + c + " without stock", x -> x.fill(c, 1), ColdLine.NO);
            line.refused("turn of " + c + " that doesn't go", x -> x.turn(c, 0), ColdLine.NO);
            line.refused("sell of " + c + " that has not come", x -> x.sell(c), ColdLine.NO);
            line.refused("worth of " + c + " at no market", x -> x.worth(c, 0), ColdLine.NO);
        } else {
            line.refusedByZero("tier of " + c, x -> x.tier(c, 0, 0), ColdLine.BEYOND);
            line.refused("fill of " + c, x -> x.fill(c, 1), ColdLine.BEYOND);
            line.refused("turn of " + c, x -> x.turn(c, 0), ColdLine.BEYOND);
            line.refused("sell of " + c, x -> x.sell(c), ColdLine.BEYOND);
            line.refused("worth of " + c, x -> x.worth(c, 0), ColdLine.BEYOND);
        }
    }

    private static void withACar(Bounds line, String name, int c, boolean isThere, Bounds.Call call) {
        if (isThere) {
            line.accepted(name + " of " + c, call);
        } else {
            line.refused(name + " of " + c, call, ColdLine.BEYOND);
        }
    }

    // "A CAR, EMPTY at a STATION, without ICE, all TIERS at a HEAT"; it doesn't go, and has not come
    private static void aNewCar() {
        ColdLine x = Bounds.busyLine();
        CHECK.due("its number", x.car(1, 40, -400), 5);
        int[] looks = {1, ColdLine.NONE, 0, 0, 0, 0, 0, 0};
        for (int what = 0; what < looks.length; what++) {
            CHECK.due("look(5, " + what + ")", x.look(5, what), looks[what]);
        }
        for (int t = 0; t < 4; t++) {
            CHECK.due("heat of tier " + t, x.tier(5, t, 0), -400);
            for (int what = 1; what <= 4; what++) {
                CHECK.due("empty: tier(5, " + t + ", " + what + ")", x.tier(5, t, what), ColdLine.NONE);
            }
        }
        for (int part = 0; part < 3; part++) {
            CHECK.due("claim(5, " + part + ")", x.claim(5, part), 0);
        }
    }

    // "told as 10 * KIND + TIER"; "BEYOND (CAR, TIER: told below 0, too), NO: KIND"
    private static void tiersAndKindsThatAreTold() {
        Bounds one = new Bounds(CHECK, () -> withCars(1));
        for (int kind = 0; kind <= 9; kind++) {
            for (int tier = 0; tier <= 9; tier++) {
                int told = 10 * kind + tier;
                Bounds.Call call = x -> x.load(0, told, 8, 9, 1, 0);
                if (tier > 3) {
                    one.refused("told " + told, call, ColdLine.BEYOND);
                } else if (kind > 4) {
                    one.refused("told " + told, call, ColdLine.NO);
                } else {
                    one.taken("told " + told, call, 8);
                    ColdLine x = withCars(1);
                    call.on(x);
                    CHECK.due("the kind of " + told, x.tier(0, tier, 1), kind);
                    CHECK.due("only one tier has a load", loadedTiers(x), 1);
                }
            }
        }
        int[] beyond = {-1, -7, -10, -11, Integer.MIN_VALUE, Integer.MIN_VALUE + 8, 2147483644, Integer.MAX_VALUE};
        for (int told : beyond) {
            one.refused("told " + told, x -> x.load(0, told, 8, 9, 1, 0), ColdLine.BEYOND);
        }
        one.refused("told 2147483643", x -> x.load(0, 2147483643, 8, 9, 1, 0), ColdLine.NO);
        one.refused("told 2147483640", x -> x.load(0, 2147483640, 8, 9, 1, 0), ColdLine.NO);
    }

    private static int loadedTiers(ColdLine x) {
        int loaded = 0;
        for (int t = 0; t < 4; t++) {
            loaded += x.tier(0, t, 1) == ColdLine.NONE ? 0 : 1;
        }
        return loaded;
    }

    // "BASKETS (1 .. 500)"
    private static void basketsOneToFiveHundred() {
        BUSY.edges("load(0, 1, baskets, 9, 0, 0)", (x, v) -> x.load(0, 1, v, 9, 0, 0), Bounds.at(1, 1),
                Bounds.at(500, 500), ColdLine.NO);
        ColdLine x = Bounds.busyLine();
        x.load(0, 1, 500, 9, 0, 0);
        CHECK.due("500 baskets", x.tier(0, 1, 2), 500);
    }

    // "LIFE (1 .. 10000) each"
    private static void lifeOneToTenThousand() {
        BUSY.edges("load(0, 1, 8, life, 0, 0)", (x, v) -> x.load(0, 1, 8, v, 0, 0), Bounds.at(1, 8),
                Bounds.at(10000, 8), ColdLine.NO);
        ColdLine x = Bounds.busyLine();
        x.load(0, 1, 8, 10000, 0, 0);
        CHECK.due("a life of 10000", x.tier(0, 1, 3), 10000);
    }

    // "has RIPE hours (1 .. 99)"
    private static void ripeOfFirm() {
        BUSY.edges("load(0, 21, 8, 9, ripe, 0)", (x, v) -> x.load(0, 21, 8, 9, v, 0), Bounds.at(1, 8),
                Bounds.at(99, 8), ColdLine.NO);
        ColdLine x = Bounds.busyLine();
        x.load(0, 21, 8, 9, 99, 0);
        CHECK.due("99 ripe hours", x.tier(0, 1, 4), 99);
    }

    // "RIPE (of FIRM; of others it doesn't matter)"; "NONE of others than FIRM"
    private static void ripeOfOthers() {
        int[] kinds = {0, 1, 3, 4};
        int[] ripes = {0, 100, -1, 50, Integer.MIN_VALUE, Integer.MAX_VALUE};
        for (int kind : kinds) {
            for (int ripe : ripes) {
                BUSY.taken("kind " + kind + ", ripe " + ripe, x -> x.load(0, 10 * kind + 2, 8, 9, ripe, 0), 8);
                ColdLine x = Bounds.busyLine();
                x.load(0, 10 * kind + 2, 8, 9, ripe, 0);
                CHECK.due("kind " + kind + " has none", x.tier(0, 2, 4), ColdLine.NONE);
            }
        }
    }

    // "its HEAT becomes heat"; "HEAT (-400 .. 500)"
    private static void heatOfALoad() {
        BUSY.edges("load(0, 1, 8, 9, 0, heat)", (x, v) -> x.load(0, 1, 8, 9, 0, v), Bounds.at(-400, 8),
                Bounds.at(500, 8), ColdLine.NO);
        for (int heat = -400; heat <= 500; heat += 900) {
            ColdLine x = withCars(1);
            x.load(0, 1, 8, 9, 0, heat);
            CHECK.due("the tier's heat", x.tier(0, 1, 0), heat);
            CHECK.due("the one below stays", x.tier(0, 0, 0), 0);
            CHECK.due("the one above stays", x.tier(0, 2, 0), 0);
        }
    }

    // "on a TIER of a CAR that doesn't GO"; "it GOES"
    private static void loadOnACarThatGoes() {
        BUSY.refused("on a leg", x -> x.load(1, 1, 8, 9, 0, 0), ColdLine.NO);
        BUSY.refused("it goes and stands at a station", x -> x.load(2, 1, 8, 9, 0, 0), ColdLine.NO);
        BUSY.taken("it rests", x -> x.load(0, 1, 8, 9, 0, 0), 8);
        BUSY.taken("it has come", x -> x.load(3, 1, 8, 9, 0, 0), 8);
        BUSY.taken("it was sold", x -> x.load(4, 1, 8, 9, 0, 0), 8);
        BUSY.taken("it was sold, on the tier that had one", x -> x.load(4, 0, 8, 9, 0, 0), 8);
    }

    // "the TIER has one"
    private static void loadOnATierThatHasOne() {
        BUSY.refused("the same kind", x -> x.load(0, 0, 8, 9, 0, 0), ColdLine.NO);
        BUSY.refused("another kind", x -> x.load(0, 20, 8, 9, 5, 0), ColdLine.NO);
        ColdLine x = withCars(1);
        for (int t = 0; t < 4; t++) {
            CHECK.due("tier " + t, x.load(0, t, 8, 9, 0, 0), 8);
        }
        for (int t = 0; t < 4; t++) {
            CHECK.due("again tier " + t, x.load(0, t, 8, 9, 0, 0), ColdLine.NO);
        }
    }

    // "of several the first as each line has them": all that is BEYOND is ahead of all that is NO
    private static void firstRefusalOfALoad() {
        BUSY.refused("no car, all else wrong", x -> x.load(5, 50, 0, 0, 0, 501), ColdLine.BEYOND);
        BUSY.refused("no tier, all else wrong", x -> x.load(0, 54, 0, 0, 0, 501), ColdLine.BEYOND);
        BUSY.refused("no tier of a car that goes", x -> x.load(1, 4, 8, 9, 0, 0), ColdLine.BEYOND);
        BUSY.refused("told below 0 of a car that goes", x -> x.load(1, -1, 8, 9, 0, 0), ColdLine.BEYOND);
    }

    // "BEYOND: 0; NO: 0, and status() tells of it"
    private static void tiersOfACar() {
        BUSY.edgesByZero("tier(0, tier, 2)", (x, v) -> x.tier(0, v, 2), Bounds.at(0, 300), Bounds.at(3, ColdLine.NONE),
                ColdLine.BEYOND);
        BUSY.refusedByZero("tier(0, 4, 5): the tier first", x -> x.tier(0, 4, 5), ColdLine.BEYOND);
        BUSY.refusedByZero("tier(5, 0, 5): the car first", x -> x.tier(5, 0, 5), ColdLine.BEYOND);
    }

    private static void whatOfATier() {
        BUSY.edgesByZero("tier(4, 0, what)", (x, v) -> x.tier(4, 1, v), Bounds.at(0, Bounds.busyLine().tier(4, 1, 0)),
                Bounds.at(4, ColdLine.NONE), ColdLine.NO);
        for (int what = 1; what <= 4; what++) {
            int asked = what;
            BUSY.taken("NONE without a load: " + what, x -> x.tier(0, 3, asked), ColdLine.NONE);
            BUSY.taken("NONE of what was sold: " + what, x -> x.tier(4, 0, asked), ColdLine.NONE);
        }
        ColdLine x = withCars(1);
        x.load(0, 3, 1, 1, 0, -7);
        CHECK.due("a heat of -7", x.tier(0, 3, 0), -7);
        CHECK.due("is no refusal", x.status(ColdLine.NO), 0);
    }

    // "RIPE hours that are left (4; NONE of others than FIRM)": 0 if none is left
    private static void ripeHoursThatAreLeft() {
        ColdLine x = Check.lineAt(100);
        x.car(0, 1, 100);
        x.load(0, 21, 1, 1000, 2, 100);
        int[] due = {2, 1, 0, 0};
        for (int h = 0; h < due.length; h++) {
            CHECK.due("left after " + h + " hours", x.tier(0, 1, 4), due[h]);
            x.run(1);
        }
    }

    private static void aLoadWithoutLife() {
        ColdLine x = Check.lineAt(100);
        x.car(0, 1, 100);
        x.load(0, 0, 5, 1, 0, 100);
        x.run(2);
        CHECK.due("its life", x.tier(0, 0, 3), 0);
        CHECK.due("its kind", x.tier(0, 0, 1), 0);
        CHECK.due("its baskets", x.tier(0, 0, 2), 5);
        CHECK.due("the tier still has one", x.load(0, 0, 1, 1, 0, 0), ColdLine.NO);
    }

    private static ColdLine withIce(int ice, int stock) {
        ColdLine x = new ColdLine();
        x.car(0, 1, 0);
        x.stock(0, ice + stock);
        if (ice > 0) {
            x.fill(0, ice);
        }
        return x;
    }

    // "NO: .. v"
    private static void fillByHand() {
        Bounds none = new Bounds(CHECK, () -> withIce(0, 1000));
        none.edges("fill(0, v)", (x, v) -> x.fill(0, v), Bounds.at(1, 1), Bounds.at(100, 100), ColdLine.NO);
        none.refused("fill(1, 0): the car first", x -> x.fill(1, 0), ColdLine.BEYOND);
    }

    // "(1 .. 100 together at most)"; "more than 100"
    private static void fillHundredTogether() {
        int[] ices = {1, 40, 99};
        for (int ice : ices) {
            Bounds some = new Bounds(CHECK, () -> withIce(ice, 1000));
            some.taken(ice + " and 1", x -> x.fill(0, 1), ice + 1);
            some.taken(ice + " to 100", x -> x.fill(0, 100 - ice), 100);
            some.refused(ice + " to 101", x -> x.fill(0, 101 - ice), ColdLine.NO);
            some.refused(ice + " and 0", x -> x.fill(0, 0), ColdLine.NO);
            some.refused(ice + " and -1", x -> x.fill(0, -1), ColdLine.NO);
            some.refused(ice + " and MAX", x -> x.fill(0, Integer.MAX_VALUE), ColdLine.NO);
        }
        Bounds full = new Bounds(CHECK, () -> withIce(100, 1000));
        full.refused("100 and 1", x -> x.fill(0, 1), ColdLine.NO);
        full.refused("100 and 0", x -> x.fill(0, 0), ColdLine.NO);
    }

    // "from its STATION's STOCK"; "the STOCK hasn't so much"
    private static void fillFromTheStock() {
        Bounds twenty = new Bounds(CHECK, () -> withIce(0, 20));
        twenty.taken("all of it", x -> x.fill(0, 20), 20);
        twenty.refused("one more", x -> x.fill(0, 21), ColdLine.NO);
        Bounds none = new Bounds(CHECK, () -> withIce(0, 0));
        none.refused("an empty stock", x -> x.fill(0, 1), ColdLine.NO);
        ColdLine x = withIce(0, 20);
        x.fill(0, 20);
        CHECK.due("the stock then", x.at(0, 0), 0);
        CHECK.due("none is left", x.fill(0, 1), ColdLine.NO);
        x.stock(1, 100);
        CHECK.due("the other station's is not its own", x.fill(0, 1), ColdLine.NO);
        CHECK.due("it stays", x.at(1, 0), 100);
    }

    // "NO: it is on a LEG"
    private static void fillOnALeg() {
        ColdLine x = withIce(0, 100);
        x.stock(1, 100);
        x.send(0, 1);
        CHECK.due("it goes, at its station", x.fill(0, 1), 1);
        x.run(1);
        for (int left = 4; left > 0; left--) {
            CHECK.due("hours left", x.look(0, 2), left);
            CHECK.due("on its leg", x.fill(0, 1), ColdLine.NO);
            x.run(1);
        }
        CHECK.due("it has come", x.fill(0, 1), 2);
        CHECK.due("from the stock where it is", x.at(1, 0), 99);
        CHECK.due("not from where it was", x.at(0, 0), 99);
        BUSY.refused("of the busy line", y -> y.fill(1, 1), ColdLine.NO);
        BUSY.refused("whatever v is", y -> y.fill(1, 101), ColdLine.NO);
    }

    // "a VENT that is shut (0) or open (1)"
    private static void ventShutOrOpen() {
        BUSY.edges("vent(0, open)", (x, v) -> x.vent(0, v), Bounds.at(0, 0), Bounds.at(1, 0), ColdLine.NO);
        ColdLine x = Bounds.busyLine();
        int[] open = {1, 1, 0, 0};
        int[] due = {0, 1, 1, 0};
        for (int i = 0; i < open.length; i++) {
            CHECK.due("on a leg: what it was", x.vent(1, open[i]), due[i]);
            CHECK.due("what it is", x.look(1, 5), open[i]);
        }
    }

    // "BEYOND, NO: it GOES, or is AT that"
    private static void sendIsRefused() {
        BUSY.refused("it is at that", x -> x.send(0, 0), ColdLine.NO);
        BUSY.refused("it has come to that", x -> x.send(3, 3), ColdLine.NO);
        BUSY.refused("it was sold at that", x -> x.send(4, 3), ColdLine.NO);
        BUSY.refused("it goes, on a leg", x -> x.send(1, 2), ColdLine.NO);
        BUSY.refused("it goes, to its end", x -> x.send(1, 3), ColdLine.NO);
        BUSY.refused("it goes, at a station", x -> x.send(2, 0), ColdLine.NO);
        BUSY.refused("it goes, to where it is", x -> x.send(2, 1), ColdLine.NO);
        BUSY.refused("it goes, to no station", x -> x.send(1, 4), ColdLine.BEYOND);
        BUSY.refused("no car to no station", x -> x.send(5, 4), ColdLine.BEYOND);
    }

    // "how many hours of LEGS"; "(it has not COME any more)"
    private static void sendToBothEnds() {
        BUSY.taken("to the next", x -> x.send(0, 1), 4);
        BUSY.taken("to the last", x -> x.send(0, 3), 7);
        BUSY.taken("down to the next", x -> x.send(3, 2), 1);
        BUSY.taken("down to the first", x -> x.send(3, 0), 7);
        ColdLine x = Bounds.busyLine();
        CHECK.due("it has come", x.look(3, 7), 1);
        x.send(3, 0);
        CHECK.due("not any more", x.look(3, 7), 0);
        CHECK.due("so it can't be sold", x.sell(3), ColdLine.NO);
        ColdLine longest = new ColdLine();
        for (int s = 2; s < 8; s++) {
            longest.station(12);
        }
        longest.car(0, 1, 0);
        CHECK.due("the longest way", longest.send(0, 7), 4 + 6 * 12);
    }

    // "NO: it doesn't GO"
    private static void turnIsRefusedAtRest() {
        for (int end = 0; end < 4; end++) {
            int to = end;
            BUSY.refused("it rests", x -> x.turn(0, to), ColdLine.NO);
            BUSY.refused("it has come", x -> x.turn(3, to), ColdLine.NO);
        }
        BUSY.refused("it rests, to no station", x -> x.turn(0, 4), ColdLine.BEYOND);
    }

    // "on a LEG one that lies ahead (the STATION to which the LEG leads, or further on that side)"
    private static void turnOnALeg() {
        BUSY.refused("from which it leads", x -> x.turn(1, 0), ColdLine.NO);
        BUSY.taken("to which it leads", x -> x.turn(1, 1), 2);
        BUSY.taken("further on", x -> x.turn(1, 2), 4);
        BUSY.taken("to the end that it has", x -> x.turn(1, 3), 5);
        BUSY.refused("to no station", x -> x.turn(1, 4), ColdLine.BEYOND);
        Bounds downwards = new Bounds(CHECK, () -> {
            ColdLine x = Bounds.busyLine();
            x.late(3, 0);
            x.late(2, 0);
            x.send(3, 0);
            x.run(3);
            return x;
        });
        downwards.taken("it is on the leg from 2 to 1", x -> x.look(3, 0), 2);
        downwards.taken("with all hours left", x -> x.look(3, 2), 2);
        downwards.refused("downwards: behind", x -> x.turn(3, 3), ColdLine.NO);
        downwards.refused("downwards: from which it leads", x -> x.turn(3, 2), ColdLine.NO);
        downwards.taken("downwards: to which it leads", x -> x.turn(3, 1), 2);
        downwards.taken("downwards: to the end that it has", x -> x.turn(3, 0), 6);
    }

    // "AT a STATION any other one"; "or is where it is AT"
    private static void turnAtAStation() {
        BUSY.refused("where it is", x -> x.turn(2, 1), ColdLine.NO);
        BUSY.taken("the other way", x -> x.turn(2, 0), 4);
        BUSY.taken("the next", x -> x.turn(2, 2), 2);
        BUSY.taken("to the end that it has", x -> x.turn(2, 3), 3);
        BUSY.refused("to no station", x -> x.turn(2, 4), ColdLine.BEYOND);
        ColdLine x = Bounds.busyLine();
        x.late(1, 48);
        x.turn(2, 0);
        CHECK.due("what it has to stand stays", x.look(2, 3), 2);
        CHECK.due("the last station's end is 3", x.turn(1, 1), 2);
        x.run(2);
        CHECK.due("turned to where the leg leads, it has come", x.look(1, 7), 1);
        CHECK.due("and doesn't stand there", x.look(1, 3), 0);
    }

    // "BEYOND, NO."
    private static void whatOfACar() {
        BUSY.edges("look(1, what)", (x, v) -> x.look(1, v), Bounds.at(0, 0), Bounds.at(7, 0), ColdLine.NO);
        BUSY.refused("look(5, 8): the car first", x -> x.look(5, 8), ColdLine.BEYOND);
        int[][] due = {
            {0, ColdLine.NONE, 0, 0}, {0, 3, 2, 0}, {1, 3, 0, 2}, {3, ColdLine.NONE, 0, 0}, {3, ColdLine.NONE, 0, 0}};
        for (int car = 0; car < due.length; car++) {
            for (int what = 0; what < 4; what++) {
                int c = car;
                int w = what;
                BUSY.taken("look(" + c + ", " + w + ")", x -> x.look(c, w), due[c][w]);
            }
        }
        BUSY.taken("3 has come", x -> x.look(3, 7), 1);
        BUSY.taken("4 was sold", x -> x.look(4, 7), 0);
    }
}
