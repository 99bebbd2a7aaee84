/** The bounds that the document names for counts, the row and status: promises 1, 27 to 33, and terms, part 5. */
public final class BoundsOfRowsTest {
    private static final Check CHECK = new Check();
    private static final Bounds BUSY = new Bounds(CHECK, Bounds::busyLine);
    private static final Bounds NO_ROW = new Bounds(CHECK, ColdLine::new);
    private static final Bounds FULL_ROW = new Bounds(CHECK, BoundsOfRowsTest::fullRow);

    public static void main(String[] args) {
        aNewObject();
        whatOfCount();
        iceThatWasPutInAndUsed();
        whatOfAStation();
        placesThatAreTold();
        numbersThatAreTold();
        aRowThatComes();
        tearOfNoneAndOfOne();
        placesOfTheRow();
        rowThatIsMissing();
        copyOfNoneAndOfAll();
        copyBeyondItsEnds();
        copyBelowAndMissing();
        copyAsTheyWere();
        statusOfOtherNumbers();
        statusOfAllRefusals();
        answersThatAreNoRefusals();
        refusalsOfOneObject();
        CHECK.end();
    }

    private static ColdLine fullRow() {
        ColdLine x = new ColdLine();
        for (int i = 0; i < 48; i++) {
            x.tell(i, 100 + i);
        }
        return x;
    }

    // "Two STATIONS a LEG of 4 apart, STOCKS 0, no CARS, RULES; THE TAPE is empty."
    private static void aNewObject() {
        int[] counts = {0, 2, 0, 0, 0, 0, 0, 0, 0};
        for (int what = 0; what < counts.length; what++) {
            int asked = what;
            NO_ROW.taken("count(" + what + ")", x -> x.count(asked), counts[what]);
        }
        int[][] at = {{0, 100, 0, 0, 4}, {0, 100, 0, 0, ColdLine.NONE}};
        for (int s = 0; s < 2; s++) {
            for (int what = 0; what < 5; what++) {
                int station = s;
                int asked = what;
                NO_ROW.taken("at(" + s + ", " + what + ")", x -> x.at(station, asked), at[s][what]);
            }
        }
        NO_ROW.taken("the tape", x -> x.rule(0, 1), -10);
        NO_ROW.taken("its first car", x -> x.car(1, 1, 0), 0);
        NO_ROW.taken("its next station", x -> x.station(1), 3);
        NO_ROW.taken("an hour of nothing", x -> x.run(1), 0);
    }

    // "NO."
    private static void whatOfCount() {
        BUSY.edges("count(what)", (x, v) -> x.count(v), Bounds.at(0, 3), Bounds.at(8, Bounds.busyLine().count(8)),
                ColdLine.NO);
        int[] due = {3, 4, 5, 2, 6};
        for (int what = 0; what < due.length; what++) {
            int asked = what;
            BUSY.taken("count(" + what + ")", x -> x.count(asked), due[what]);
        }
        BUSY.taken("sold", x -> x.count(7), 1);
    }

    // "ICE that was put in, in all (5), USED in all (6)"
    private static void iceThatWasPutInAndUsed() {
        ColdLine x = Check.lineAt(0);
        x.car(0, 1, 0);
        x.car(1, 1, 0);
        x.stock(0, 100);
        x.stock(1, 100);
        x.fill(0, 1);
        CHECK.due("one by hand", x.count(5), 1);
        x.fill(0, 100);
        CHECK.due("a refused fill puts nothing in", x.count(5), 1);
        x.fill(1, 100);
        CHECK.due("of both cars", x.count(5), 101);
        Check.ruleOf(x, "fill 21 if car=0", 0, 9);
        x.run(1);
        CHECK.due("by a rule, too", x.count(5), 121);
        CHECK.due("nothing is used at 0", x.count(6), 0);
        x.load(0, 0, 1, 1, 0, 100);
        x.load(1, 0, 1, 1, 0, 200);
        x.run(1);
        CHECK.due("used of both cars", x.count(6), 3);
        CHECK.due("none was wanted", x.count(5), 121);
    }

    // "the LEG behind it (4; NONE of the last). BEYOND, NO."
    private static void whatOfAStation() {
        BUSY.edges("at(1, what)", (x, v) -> x.at(1, v), Bounds.at(0, Bounds.busyLine().at(1, 0)), Bounds.at(4, 2),
                ColdLine.NO);
        BUSY.refused("at(4, 5): the station first", x -> x.at(4, 5), ColdLine.BEYOND);
        int[] legs = {4, 2, 1, ColdLine.NONE};
        for (int s = 0; s < legs.length; s++) {
            int station = s;
            BUSY.taken("the leg behind " + s, x -> x.at(station, 4), legs[s]);
        }
        ColdLine eight = Bounds.lineOf(8);
        CHECK.due("the leg behind 6", eight.at(6, 4), 1);
        CHECK.due("none behind 7", eight.at(7, 4), ColdLine.NONE);
    }

    // "BEYOND: i"
    private static void placesThatAreTold() {
        BUSY.edges("tell(i, 5)", (x, v) -> x.tell(v, 5), Bounds.at(0, 1), Bounds.at(47, 1), ColdLine.BEYOND);
        NO_ROW.edges("tell(i, 5)", (x, v) -> x.tell(v, 5), Bounds.at(0, 1), Bounds.at(47, 1), ColdLine.BEYOND);
        NO_ROW.refused("tell(48, 10000): i first", x -> x.tell(48, 10000), ColdLine.BEYOND);
        NO_ROW.refused("tell(-1, -10000): i first", x -> x.tell(-1, -10000), ColdLine.BEYOND);
    }

    // "NO: v (-9999 .. 9999)"
    private static void numbersThatAreTold() {
        BUSY.edges("tell(0, v)", (x, v) -> x.tell(0, v), Bounds.at(-9999, 1), Bounds.at(9999, 1), ColdLine.NO);
        NO_ROW.edges("tell(0, v)", (x, v) -> x.tell(0, v), Bounds.at(-9999, 1), Bounds.at(9999, 1), ColdLine.NO);
        ColdLine x = new ColdLine();
        x.tell(0, -9999);
        x.tell(47, 9999);
        CHECK.due("row(0)", x.row(0), -9999);
        CHECK.due("row(47)", x.row(47), 9999);
    }

    // "(it is there then, 48 numbers, others 0, if it was missing)"
    private static void aRowThatComes() {
        for (int told = 0; told < 48; told++) {
            ColdLine x = fullRow();
            x.tell(told, 7);
            CHECK.due("there already: the others stay", x.row((told + 1) % 48), 100 + (told + 1) % 48);
            x.tear();
            x.tell(told, 8);
            for (int i = 0; i < 48; i++) {
                CHECK.due("missing before, told " + told + ": row(" + i + ")", x.row(i), i == told ? 8 : 0);
            }
        }
        NO_ROW.refused("refused, it doesn't come", x -> x.tell(0, 10000), ColdLine.NO);
    }

    // "1 if it was there, else 0 (at first it is missing)"
    private static void tearOfNoneAndOfOne() {
        NO_ROW.taken("at first", x -> x.tear(), 0);
        BUSY.taken("there", x -> x.tear(), 1);
        ColdLine x = fullRow();
        CHECK.due("there", x.tear(), 1);
        CHECK.due("missing", x.tear(), 0);
        CHECK.due("row", x.row(0), 0);
        CHECK.due("is missing", x.status(ColdLine.MISSING), 1);
        CHECK.due("told again", x.tell(0, 0), 1);
        CHECK.due("there again", x.tear(), 1);
    }

    // "BEYOND: 0, and status() tells of it"
    private static void placesOfTheRow() {
        FULL_ROW.edgesByZero("row(i)", (x, v) -> x.row(v), Bounds.at(0, 100), Bounds.at(47, 147), ColdLine.BEYOND);
        BUSY.taken("row(47)", x -> x.row(47), -7);
    }

    // "MISSING: 0; BEYOND: 0"
    private static void rowThatIsMissing() {
        int[] places = {0, 47, -1, 48, Integer.MIN_VALUE, Integer.MAX_VALUE};
        for (int i : places) {
            NO_ROW.refusedByZero("row(" + i + ") of none", x -> x.row(i), ColdLine.MISSING);
        }
    }

    private static void copyOfNoneAndOfAll() {
        FULL_ROW.taken("none of the first", x -> x.copy(0, 0, 0), 0);
        FULL_ROW.taken("none behind the last", x -> x.copy(48, 48, 0), 0);
        FULL_ROW.taken("none from the last", x -> x.copy(48, 0, 0), 0);
        FULL_ROW.taken("none to the last", x -> x.copy(0, 48, 0), 0);
        FULL_ROW.taken("all", x -> x.copy(0, 0, 48), 48);
        FULL_ROW.taken("the last one", x -> x.copy(47, 0, 1), 1);
        FULL_ROW.taken("to the last one", x -> x.copy(0, 47, 1), 1);
        FULL_ROW.taken("all but one", x -> x.copy(1, 0, 47), 47);
        FULL_ROW.taken("all but one, up", x -> x.copy(0, 1, 47), 47);
    }

    // "COPY: i or j below 0, i + n or j + n above 48"
    private static void copyBeyondItsEnds() {
        int max = Integer.MAX_VALUE;
        int min = Integer.MIN_VALUE;
        int[][] refused = {{-1, 0, 0}, {0, -1, 0}, {-1, 0, 1}, {0, -1, 1}, {49, 0, 0}, {0, 49, 0}, {48, 0, 1},
            {0, 48, 1}, {0, 0, 49}, {1, 0, 48}, {0, 1, 48}, {46, 0, 3}, {0, 46, 3}, {max, 0, 0}, {0, max, 0},
            {max, 0, 1}, {0, max, 1}, {0, 0, max}, {1, 1, max}, {48, 48, max}, {max, max, max}, {min, 0, 1},
            {0, min, 1}, {min, min, max}, {-5, 0, 5}, {0, -5, 5}};
        for (int[] a : refused) {
            FULL_ROW.refused("copy(" + a[0] + ", " + a[1] + ", " + a[2] + ")", x -> x.copy(a[0], a[1], a[2]),
                    ColdLine.COPY);
        }
    }

    // "MISSING, BELOW: n"
    private static void copyBelowAndMissing() {
        FULL_ROW.refused("n -1", x -> x.copy(0, 0, -1), ColdLine.BELOW);
        FULL_ROW.refused("n MIN", x -> x.copy(0, 0, Integer.MIN_VALUE), ColdLine.BELOW);
        FULL_ROW.refused("n -1, i -1", x -> x.copy(-1, 49, -1), ColdLine.BELOW);
        NO_ROW.refused("no row", x -> x.copy(0, 0, 0), ColdLine.MISSING);
        NO_ROW.refused("no row, n -1", x -> x.copy(0, 0, -1), ColdLine.MISSING);
        NO_ROW.refused("no row, i -1", x -> x.copy(-1, 0, 49), ColdLine.MISSING);
    }

    // "come to its place j on (as they were)", over each other too
    private static void copyAsTheyWere() {
        int[][] copies = {{0, 1, 47}, {1, 0, 47}, {0, 47, 1}, {47, 0, 1}, {10, 12, 5}, {12, 10, 5}, {0, 24, 24},
            {5, 5, 9}, {48, 0, 0}, {0, 0, 48}};
        for (int[] a : copies) {
            ColdLine x = fullRow();
            x.copy(a[0], a[1], a[2]);
            for (int i = 0; i < 48; i++) {
                boolean isCopied = i >= a[1] && i < a[1] + a[2];
                CHECK.due("copy(" + a[0] + ", " + a[1] + ", " + a[2] + "): row(" + i + ")", x.row(i),
                        100 + (isCopied ? i - a[1] + a[0] : i));
            }
        }
    }

    // "an answer -2 .. -8"; "NO: another number."
    private static void statusOfOtherNumbers() {
        int[] others = {-1, -9, 0, 1, 2, 8, -10, Integer.MIN_VALUE, Integer.MAX_VALUE};
        for (int by : others) {
            BUSY.refused("status(" + by + ")", x -> x.status(by), ColdLine.NO);
        }
        for (int by = -2; by >= -8; by--) {
            int asked = by;
            NO_ROW.taken("status(" + by + ")", x -> x.status(asked), 0);
        }
    }

    // "How many calls were refused by an answer -2 .. -8 (of those that tell 0 by what they tell)."
    private static void statusOfAllRefusals() {
        ColdLine x = new ColdLine();
        Bounds.Call[] calls = {y -> y.read(0), y -> y.row(0), y -> y.row(99), y -> y.copy(0, 0, 0),
            y -> y.weather(2, 0, 0), y -> y.out(2, 0), y -> y.tier(0, 0, 0), y -> y.look(0, 0), y -> y.feed(0, -1),
            y -> y.run(-1), y -> y.tell(0, 0), y -> y.row(48), y -> y.copy(0, 0, -1), y -> y.copy(-1, 0, 0),
            y -> y.weather(0, 0, 501), y -> y.car(0, 1, 0), y -> y.tier(0, 0, 5), y -> y.status(-1),
            y -> y.count(9), y -> y.feed(0, 5)};
        int[] by = {-2, -2, -2, -2, -3, -3, -3, -3, -4, -4, 0, -3, -4, -6, -7, 0, -7, -7, -7, -7};
        int[] due = new int[9];
        for (int i = 0; i < calls.length; i++) {
            calls[i].on(x);
            due[-by[i]]++;
            for (int asked = -2; asked >= -8; asked--) {
                CHECK.due("after call " + i + ": status(" + asked + ")", x.status(asked), due[-asked]);
            }
        }
        for (int n = 3; n <= 10; n++) {
            x.station(1);
        }
        CHECK.due("two stations too many", x.status(ColdLine.FULL), 2);
        CHECK.due("KIND is told by no call", x.status(ColdLine.KIND), 0);
    }

    /* Numbers that look like refusals, and NONE, and faults. */
    private static void answersThatAreNoRefusals() {
        ColdLine x = new ColdLine();
        x.car(0, 1, 0);
        for (int v = -8; v <= -1; v++) {
            x.tell(0, v);
            CHECK.due("row(0)", x.row(0), v);
            x.weather(0, 0, v);
            CHECK.due("out(0, 0)", x.out(0, 0), v);
            CHECK.due("weather(0, 0, 0)", x.weather(0, 0, 0), v);
            CHECK.due("car", x.car(0, 1, v), 9 + v);
            CHECK.due("tier", x.tier(9 + v, 0, 0), v);
        }
        CHECK.due("look", x.look(0, 1), ColdLine.NONE);
        CHECK.due("best", x.best(0), ColdLine.NONE);
        CHECK.due("at", x.at(1, 4), ColdLine.NONE);
        CHECK.due("tier without a load", x.tier(0, 0, 1), ColdLine.NONE);
        CHECK.due("a fault", x.rule(0, 1), -10);
        for (int by = -2; by >= -8; by--) {
            CHECK.due("status(" + by + ")", x.status(by), 0);
        }
    }

    private static void refusalsOfOneObject() {
        ColdLine x = new ColdLine();
        for (int n = 1; n <= 500; n++) {
            x.run(0);
        }
        CHECK.due("500 refused calls", x.status(ColdLine.NO), 500);
        CHECK.due("another object", new ColdLine().status(ColdLine.NO), 0);
    }
}
