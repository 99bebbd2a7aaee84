/** The bounds that the document names for the line: terms, part 1, and promises 1 to 9 and 17. */
public final class BoundsOfLineTest {
    private static final Check CHECK = new Check();
    private static final Bounds BUSY = new Bounds(CHECK, Bounds::busyLine);
    private static final int GAP = -9999;

    public static void main(String[] args) {
        theFirstHourIsZero();
        twoToEightStations();
        legsOfOneToTwelve();
        numbersOfStations();
        stockAtOnce();
        stockThen();
        gangZeroToHundred();
        priceZeroToNinetyNine();
        lateZeroToFortyEight();
        hoursOfWeather();
        numbersOfWeather();
        allAreGapsAtFirst();
        weatherTellsTheOneBefore();
        oneNumberFillsAllGaps();
        nearestHourBefore();
        noGaps();
        allGapsAgain();
        hoursModuloFortyEight();
        numbersThatAreRead();
        rowsWithoutAndWithAllGaps();
        readIsRefused();
        hoursOfOut();
        bandsOfTheTable();
        lossZeroToManyHundred();
        CHECK.end();
    }

    // "the one that is open is 0 at first"; "Then the hour is closed."
    private static void theFirstHourIsZero() {
        ColdLine x = new ColdLine();
        CHECK.due("the open hour at first", x.count(0), 0);
        x.run(1);
        CHECK.due("the open hour then", x.count(0), 1);
    }

    // "STATIONS 0 .. n - 1 (n 2 .. 8)"; "NO, FULL."
    private static void twoToEightStations() {
        for (int n = 2; n < 8; n++) {
            int stations = n;
            new Bounds(CHECK, () -> Bounds.lineOf(stations)).taken("station to " + n, x -> x.station(1), n + 1);
        }
        Bounds eight = new Bounds(CHECK, () -> Bounds.lineOf(8));
        eight.refused("a ninth station", x -> x.station(1), ColdLine.FULL);
        eight.refused("a ninth station at 12", x -> x.station(12), ColdLine.FULL);
        eight.refused("a ninth station at 0", x -> x.station(0), ColdLine.NO);
        eight.refused("a ninth station at 13", x -> x.station(13), ColdLine.NO);
    }

    // "neighbours a LEG of 1 .. 12 hours apart"
    private static void legsOfOneToTwelve() {
        BUSY.edges("station(leg)", (x, v) -> x.station(v), Bounds.at(1, 5), Bounds.at(12, 5), ColdLine.NO);
        for (int leg = 1; leg <= 12; leg += 11) {
            ColdLine x = new ColdLine();
            x.station(leg);
            CHECK.due("the leg behind 1", x.at(1, 4), leg);
            CHECK.due("none behind the last", x.at(2, 4), ColdLine.NONE);
            CHECK.due("the first leg stays", x.at(0, 4), 4);
            x.car(2, 1, 0);
            CHECK.due("hours of it", x.send(0, 1), leg);
            CHECK.due("not come an hour before", x.run(leg), 0);
            CHECK.due("come at its end", x.run(1), 1);
        }
    }

    private static void numbersOfStations() {
        for (int n = 2; n <= 8; n += 6) {
            int last = n - 1;
            Bounds line = new Bounds(CHECK, () -> withCarsAndRow(last + 1));
            everyCallWithAStation(line, 0, true);
            everyCallWithAStation(line, last, true);
            everyCallWithAStation(line, n, false);
            everyCallWithAStation(line, -1, false);
            everyCallWithAStation(line, Integer.MAX_VALUE, false);
            everyCallWithAStation(line, Integer.MIN_VALUE, false);
        }
    }

    /** Every station is a market; car 0 rests at 0, car 1 at the last. */
    private static ColdLine withCarsAndRow(int n) {
        ColdLine x = Bounds.lineOf(n);
        for (int s = 0; s < n; s++) {
            x.price(s, 9);
        }
        x.car(0, 1, 0);
        x.car(n - 1, 1, 0);
        x.tell(0, 5);
        return x;
    }

    private static void everyCallWithAStation(Bounds line, int s, boolean isThere) {
        int other = s == 0 ? 1 : 0;
        withAStation(line, "stock", s, isThere, x -> x.stock(s, 1));
        withAStation(line, "gang", s, isThere, x -> x.gang(s, 1));
        withAStation(line, "price", s, isThere, x -> x.price(s, 1));
        withAStation(line, "read", s, isThere, x -> x.read(s));
        withAStation(line, "car", s, isThere, x -> x.car(s, 1, 0));
        withAStation(line, "late", s, isThere, x -> x.late(s, 1));
        withAStation(line, "at", s, isThere, x -> x.at(s, 0));
        withAStation(line, "send", s, isThere, x -> x.send(other, s));
        withAStation(line, "worth", s, isThere, x -> x.worth(other, s));
        if (isThere) {
            line.accepted("weather at " + s, x -> x.weather(s, 0, 1));
            line.accepted("out at " + s, x -> x.out(s, 0));
        } else {
            line.refusedByZero("weather at " + s, x -> x.weather(s, 0, 1), ColdLine.BEYOND);
            line.refusedByZero("out at " + s, x -> x.out(s, 0), ColdLine.BEYOND);
            line.refused("turn to " + s, x -> x.turn(0, s), ColdLine.BEYOND);
        }
    }

    private static void withAStation(Bounds line, String name, int s, boolean isThere, Bounds.Call call) {
        if (isThere) {
            line.accepted(name + " at " + s, call);
        } else {
            line.refused(name + " at " + s, call, ColdLine.BEYOND);
        }
    }

    private static ColdLine withStock(int stock) {
        ColdLine x = new ColdLine();
        for (int left = stock; left > 0; left -= 10000) {
            x.stock(1, Math.min(left, 10000));
        }
        return x;
    }

    // "STOCK of a STATION is more by v (-10000 .. 10000 ..)"
    private static void stockAtOnce() {
        Bounds half = new Bounds(CHECK, () -> withStock(50000));
        half.edges("stock(1, v)", (x, v) -> x.stock(1, v), Bounds.at(-10000, 40000), Bounds.at(10000, 60000),
                ColdLine.NO);
        half.taken("stock(1, 0)", x -> x.stock(1, 0), 50000);
    }

    // "(.. 0 .. 100000 then): what it is."
    private static void stockThen() {
        Bounds none = new Bounds(CHECK, () -> withStock(0));
        none.taken("0 and 0", x -> x.stock(1, 0), 0);
        none.refused("0 and -1", x -> x.stock(1, -1), ColdLine.NO);
        none.refused("0 and -10000", x -> x.stock(1, -10000), ColdLine.NO);
        Bounds some = new Bounds(CHECK, () -> withStock(9999));
        some.taken("9999 and -9999", x -> x.stock(1, -9999), 0);
        some.refused("9999 and -10000", x -> x.stock(1, -10000), ColdLine.NO);
        Bounds most = new Bounds(CHECK, () -> withStock(100000));
        most.taken("100000 and 0", x -> x.stock(1, 0), 100000);
        most.taken("100000 and -1", x -> x.stock(1, -1), 99999);
        most.refused("100000 and 1", x -> x.stock(1, 1), ColdLine.NO);
        most.refused("100000 and 10000", x -> x.stock(1, 10000), ColdLine.NO);
        Bounds almost = new Bounds(CHECK, () -> withStock(90001));
        almost.taken("90001 and 9999", x -> x.stock(1, 9999), 100000);
        almost.refused("90001 and 10000", x -> x.stock(1, 10000), ColdLine.NO);
        almost.taken("the other's stock is its own", x -> x.stock(0, 10000), 10000);
    }

    // "its GANG (0 .. 100; 100 at first)"; "the one before"
    private static void gangZeroToHundred() {
        BUSY.edges("gang(1, v)", (x, v) -> x.gang(1, v), Bounds.at(0, 20), Bounds.at(100, 20), ColdLine.NO);
        BUSY.edges("gang(3, v)", (x, v) -> x.gang(3, v), Bounds.at(0, 100), Bounds.at(100, 100), ColdLine.NO);
        ColdLine x = Bounds.busyLine();
        x.gang(1, 0);
        CHECK.due("gang 0 is held", x.gang(1, 100), 0);
        CHECK.due("gang 100 is held", x.at(1, 1), 100);
    }

    // "PRICE (1 .. 99; 0 at first: none)"; "(0: no MARKET any more): the one before"
    private static void priceZeroToNinetyNine() {
        BUSY.edges("price(3, v)", (x, v) -> x.price(3, v), Bounds.at(0, 30), Bounds.at(99, 30), ColdLine.NO);
        BUSY.edges("price(0, v)", (x, v) -> x.price(0, v), Bounds.at(0, 0), Bounds.at(99, 0), ColdLine.NO);
        ColdLine x = Bounds.busyLine();
        x.price(3, 99);
        CHECK.due("price 99 is held", x.price(3, 0), 99);
        CHECK.due("price 0 is held", x.at(3, 2), 0);
        CHECK.due("no market any more", x.sell(3), ColdLine.NO);
        CHECK.due("price 1 after none", x.price(3, 1), 0);
        CHECK.so("a market again", x.sell(3) >= 0);
    }

    // "LATE of a STATION (0 .. 48 hours; 0 at first)"; "what it was"
    private static void lateZeroToFortyEight() {
        BUSY.edges("late(1, v)", (x, v) -> x.late(1, v), Bounds.at(0, 5), Bounds.at(48, 5), ColdLine.NO);
        BUSY.edges("late(3, v)", (x, v) -> x.late(3, v), Bounds.at(0, 0), Bounds.at(48, 0), ColdLine.NO);
        ColdLine x = Bounds.busyLine();
        x.late(3, 48);
        CHECK.due("late 48 is held", x.at(3, 3), 48);
        x.send(3, 2);
        CHECK.due("sent from there", x.look(3, 3), 48);
        x.run(48);
        CHECK.due("48 hours later it stands no more", x.look(3, 3), 0);
        CHECK.due("and has not set out", x.look(3, 2), 0);
        x.run(1);
        CHECK.due("then it sets out", x.look(3, 2), 1);
    }

    // "hour 0 .. 47"
    private static void hoursOfWeather() {
        BUSY.edgesByZero("weather(0, hour, 7)", (x, v) -> x.weather(0, v, 7), Bounds.at(0, 200), Bounds.at(47, GAP),
                ColdLine.BEYOND);
        BUSY.refusedByZero("weather(0, 48, 501): the hour first", x -> x.weather(0, 48, 501), ColdLine.BEYOND);
        BUSY.refusedByZero("weather(4, 0, 501): the station first", x -> x.weather(4, 0, 501), ColdLine.BEYOND);
    }

    // "-400 .. 500, or a GAP"; "(v = -9999: a GAP)"
    private static void numbersOfWeather() {
        BUSY.edgesByZero("weather(0, 5, v)", (x, v) -> x.weather(0, 5, v), Bounds.at(-400, 250), Bounds.at(500, 250),
                ColdLine.NO);
        BUSY.edgesByZero("weather(3, 5, v)", (x, v) -> x.weather(3, 5, v), Bounds.at(-400, GAP), Bounds.at(500, GAP),
                ColdLine.NO);
        BUSY.taken("weather(0, 5, -9999)", x -> x.weather(0, 5, GAP), 250);
        BUSY.taken("weather(3, 5, -9999)", x -> x.weather(3, 5, GAP), GAP);
        BUSY.refusedByZero("weather(0, 5, -9998)", x -> x.weather(0, 5, -9998), ColdLine.NO);
        BUSY.refusedByZero("weather(0, 5, -10000)", x -> x.weather(0, 5, -10000), ColdLine.NO);
        BUSY.refusedByZero("weather(0, 5, 9999)", x -> x.weather(0, 5, 9999), ColdLine.NO);
    }

    // "or a GAP (all are at first)", of a station that comes later too
    private static void allAreGapsAtFirst() {
        ColdLine x = Bounds.lineOf(8);
        for (int s = 0; s < 8; s++) {
            for (int hour = 0; hour < 48; hour++) {
                CHECK.due("at first: " + s + ", " + hour, x.weather(s, hour, GAP), GAP);
            }
        }
        CHECK.due("none was refused", x.status(ColdLine.NO) + x.status(ColdLine.BEYOND), 0);
    }

    // "the one before (-9999: a GAP)", though what stands there looks like a refusal
    private static void weatherTellsTheOneBefore() {
        ColdLine x = new ColdLine();
        int[] told = {-400, -8, -7, -3, -2, -1, 0, 500, GAP, 1};
        int before = GAP;
        for (int v : told) {
            CHECK.due("before " + v, x.weather(1, 47, v), before);
            before = v;
        }
        int[] refusals = Later.refusals(x);
        for (int i = 0; i < refusals.length; i++) {
            CHECK.due("status(" + -(i + 2) + ")", refusals[i], 0);
        }
    }

    // "that of the nearest hour before it, round the 48"
    private static void oneNumberFillsAllGaps() {
        for (int told = 0; told < 48; told++) {
            ColdLine x = new ColdLine();
            x.weather(0, told, -400);
            for (int hour = 0; hour < 48; hour++) {
                CHECK.due("only " + told + ": " + hour, x.out(0, hour), -400);
            }
            CHECK.due("the other station has none", x.out(1, told), 150);
        }
    }

    private static void nearestHourBefore() {
        ColdLine x = new ColdLine();
        x.weather(0, 0, 100);
        x.weather(0, 1, 110);
        x.weather(0, 46, 460);
        CHECK.due("hour 0", x.out(0, 0), 100);
        CHECK.due("hour 1", x.out(0, 1), 110);
        CHECK.due("hour 2: a gap behind 1", x.out(0, 2), 110);
        CHECK.due("hour 45: the last gap", x.out(0, 45), 110);
        CHECK.due("hour 46", x.out(0, 46), 460);
        CHECK.due("hour 47: a gap behind 46", x.out(0, 47), 460);
        x.weather(0, 0, GAP);
        CHECK.due("hour 0: round the 48 to 46", x.out(0, 0), 460);
        x.weather(0, 47, 470);
        CHECK.due("hour 0: round the 48 to 47", x.out(0, 0), 470);
        x.weather(0, 1, GAP);
        CHECK.due("hour 45: round to 47", x.out(0, 45), 470);
        x.weather(0, 47, 150);
        CHECK.due("a number that is 150", x.out(0, 0), 150);
    }

    private static void noGaps() {
        ColdLine x = new ColdLine();
        for (int hour = 0; hour < 48; hour++) {
            x.weather(1, hour, 10 * hour - 400);
        }
        for (int hour = 0; hour < 48; hour++) {
            CHECK.due("no gap: " + hour, x.out(1, hour), 10 * hour - 400);
        }
    }

    // "if all are GAPS: 150"
    private static void allGapsAgain() {
        ColdLine x = new ColdLine();
        x.weather(0, 0, 0);
        x.weather(0, 47, -1);
        CHECK.due("0 is a number", x.out(0, 5), 0);
        x.weather(0, 0, GAP);
        CHECK.due("one is left", x.out(0, 5), -1);
        x.weather(0, 47, GAP);
        CHECK.due("none is left", x.out(0, 5), 150);
        CHECK.due("nor at 47", x.out(0, 47), 150);
    }

    // "48 numbers, for HOURS modulo 48", in the hours that pass too
    private static void hoursModuloFortyEight() {
        ColdLine x = new ColdLine();
        x.weather(0, 0, -300);
        x.weather(0, 47, 300);
        int[] hours = {0, 48, 96, 4800};
        for (int hour : hours) {
            CHECK.due("out(0, " + hour + ")", x.out(0, hour), -300);
            CHECK.due("out(0, " + (hour + 47) + ")", x.out(0, hour + 47), 300);
        }
        x.car(0, 10, -300);
        x.run(47);
        CHECK.due("47 hours at -300", x.tier(0, 0, 0), -300);
        x.run(1);
        CHECK.due("hour 47", x.tier(0, 0, 0), -240);
        x.run(1);
        CHECK.due("hour 48 is as hour 0", x.tier(0, 0, 0), -246);
    }

    // "what is not -400 .. 500 is a GAP: how many are none"
    private static void numbersThatAreRead() {
        int[] numbers = {-400, 500, -401, 501, -9999, 9999, 0, -1};
        int[] due = {-400, 500, GAP, GAP, GAP, GAP, 0, -1};
        ColdLine x = new ColdLine();
        x.weather(1, 2, 222);
        for (int i = 0; i < numbers.length; i++) {
            x.tell(40 + i, numbers[i]);
        }
        CHECK.due("four are gaps", x.read(1), 44);
        for (int i = 0; i < numbers.length; i++) {
            CHECK.due("read " + numbers[i], x.weather(1, 40 + i, 1), due[i]);
            CHECK.due("the row's stays", x.row(40 + i), numbers[i]);
        }
        CHECK.due("what was told before is gone", x.weather(1, 2, 1), 0);
        CHECK.due("the other station's are gaps", x.weather(0, 0, 1), GAP);
        CHECK.due("the row is there", x.tear(), 1);
    }

    private static void rowsWithoutAndWithAllGaps() {
        ColdLine x = new ColdLine();
        x.tell(47, 470);
        x.tell(0, -100);
        CHECK.due("none is a gap", x.read(0), 48);
        CHECK.due("from hour 0 on", x.out(0, 0), -100);
        CHECK.due("to hour 47", x.out(0, 47), 470);
        for (int i = 0; i < 48; i++) {
            x.tell(i, i % 2 == 0 ? 501 : -401);
        }
        CHECK.due("all are gaps", x.read(0), 0);
        CHECK.due("then 150", x.out(0, 0), 150);
        CHECK.due("0 is no refusal", x.status(ColdLine.BEYOND) + x.status(ColdLine.MISSING), 0);
    }

    // "BEYOND, MISSING."
    private static void readIsRefused() {
        Bounds noRow = new Bounds(CHECK, () -> {
            ColdLine x = Bounds.busyLine();
            x.tear();
            return x;
        });
        noRow.refused("read(3) without a row", x -> x.read(3), ColdLine.MISSING);
        noRow.refused("read(4) without a row", x -> x.read(4), ColdLine.BEYOND);
        noRow.refused("read(-1) without a row", x -> x.read(-1), ColdLine.BEYOND);
        BUSY.refused("read(4) with a row", x -> x.read(4), ColdLine.BEYOND);
        BUSY.taken("read(3) with a row", x -> x.read(3), 48);
    }

    // "in an hour (0 or more)"
    private static void hoursOfOut() {
        BUSY.taken("out(0, 0)", x -> x.out(0, 0), 200);
        BUSY.taken("out(0, 4)", x -> x.out(0, 4), 200);
        BUSY.taken("out(0, 5)", x -> x.out(0, 5), 250);
        BUSY.taken("out(0, MAX)", x -> x.out(0, Integer.MAX_VALUE), 250);
        BUSY.taken("out(2, 0)", x -> x.out(2, 0), -50);
        BUSY.taken("out(3, 0)", x -> x.out(3, 0), 150);
        BUSY.refusedByZero("out(0, -1)", x -> x.out(0, -1), ColdLine.BEYOND);
        BUSY.refusedByZero("out(0, -48)", x -> x.out(0, -48), ColdLine.BEYOND);
        BUSY.refusedByZero("out(0, MIN)", x -> x.out(0, Integer.MIN_VALUE), ColdLine.BEYOND);
    }

    // "Band b of the TABLE of LOSS (0 .. 9)"
    private static void bandsOfTheTable() {
        BUSY.edges("loss(b, 4)", (x, v) -> x.loss(v, 4), Bounds.at(0, 1), Bounds.at(9, 50), ColdLine.BEYOND);
        BUSY.refused("loss(10, 1000): b first", x -> x.loss(10, 1000), ColdLine.BEYOND);
        BUSY.refused("loss(-1, -1): b first", x -> x.loss(-1, -1), ColdLine.BEYOND);
    }

    // "becomes v (0 .. 999): the one before"
    private static void lossZeroToManyHundred() {
        BUSY.edges("loss(3, v)", (x, v) -> x.loss(3, v), Bounds.at(0, 6), Bounds.at(999, 6), ColdLine.NO);
        for (int v = 0; v <= 999; v += 999) {
            ColdLine x = Check.lineAt(150);
            x.loss(3, v);
            x.car(0, 1, 150);
            x.load(0, 0, 1, 5000, 0, 150);
            x.load(0, 11, 1, 5000, 0, 150);
            x.run(1);
            CHECK.due("LOAD loses " + v, x.tier(0, 0, 3), 5000 - v);
            CHECK.due("SOFT loses twice " + v, x.tier(0, 1, 3), 5000 - 2 * v);
            CHECK.due("it is held", x.loss(3, 1), v);
        }
    }
}
