/** The bounds that the document names for rules: terms, part 3, and promises 19 to 21. */
public final class BoundsOfRulesTest {
    private static final Check CHECK = new Check();
    private static final Bounds BUSY = new Bounds(CHECK, Bounds::busyLine);
    private static final String LONGEST = "fill 100 if station=-100 and station=-100 and station=-100";

    public static void main(String[] args) {
        bytesAtOnce();
        eightyBytes();
        highestByteFirst();
        refusedFeedsLeaveTheTape();
        wipeOfNoneAndOfAll();
        hoursOfARule();
        tenRules();
        firstRefusalOfARule();
        aRuleEmptiesTheTape();
        aFaultLeavesTheTape();
        oneToThreeDigits();
        threeTestsAtMost();
        blanks();
        wordsByteForByte();
        bytesBeyondLetters();
        theEndOfTheTape();
        faultsBehindEachByte();
        inForceFromAndAhead();
        inForceToTheLastHour();
        equalLessAndMore();
        numbersOfTests();
        greatestNumberThatHolds();
        ventNumberZeroOrNot();
        fillNumberHundredAtMost();
        wantedZeroAtLeast();
        noMoreThanTheStock();
        noMoreThanTheGang();
        theGangOfOneHour();
        theGangOfEachStation();
        CHECK.end();
    }

    private static ColdLine withBytes(int n) {
        ColdLine x = new ColdLine();
        for (int i = 0; i < n; i++) {
            x.feed('x', 1);
        }
        return x;
    }

    // "(n 0 .. 4): how many it has. BELOW, NO: n"
    private static void bytesAtOnce() {
        BUSY.taken("feed(0, 0)", x -> x.feed(0, 0), 6);
        BUSY.taken("feed(0, 4)", x -> x.feed(0, 4), 10);
        BUSY.refused("feed(0, -1)", x -> x.feed(0, -1), ColdLine.BELOW);
        BUSY.refused("feed(0, MIN)", x -> x.feed(0, Integer.MIN_VALUE), ColdLine.BELOW);
        BUSY.refused("feed(0, 5)", x -> x.feed(0, 5), ColdLine.NO);
        BUSY.refused("feed(0, MAX)", x -> x.feed(0, Integer.MAX_VALUE), ColdLine.NO);
    }

    // "THE TAPE (bytes, 80 at most)"; "FULL"
    private static void eightyBytes() {
        for (int has = 74; has <= 80; has++) {
            int before = has;
            Bounds tape = new Bounds(CHECK, () -> withBytes(before));
            for (int n = 0; n <= 4; n++) {
                int more = n;
                if (before + n <= 80) {
                    tape.taken(before + " and " + n, x -> x.feed(0, more), before + n);
                } else {
                    tape.refused(before + " and " + n, x -> x.feed(0, more), ColdLine.FULL);
                }
            }
            tape.refused(before + " and 5: n first", x -> x.feed(0, 5), ColdLine.NO);
            tape.refused(before + " and -1: n first", x -> x.feed(0, -1), ColdLine.BELOW);
        }
    }

    // "the n lowest bytes of a number behind it, the highest of these first"
    private static void highestByteFirst() {
        ColdLine x = new ColdLine();
        x.feed(0x7E7E7E66, 1);
        x.feed(0x7E7E696C, 2);
        x.feed(0x7E6C2037, 3);
        CHECK.due("f, il, l 7", x.rule(0, 9), 0);
        x.feed(0x66696C6C, 4);
        x.feed(0x20, 1);
        x.feed(0xFFFFFF39, 1);
        CHECK.due("below 0, the lowest byte is 9", x.rule(0, 9), 1);
        x.car(0, 1, 0);
        x.weather(0, 0, 0);
        x.stock(0, 50);
        x.run(1);
        CHECK.due("they are fill 7 and fill 9", x.look(0, 4), 9);
    }

    private static void refusedFeedsLeaveTheTape() {
        ColdLine x = new ColdLine();
        Check.feedText(x, "fill");
        x.feed(0x2020, -1);
        x.feed(0x2020, 5);
        Check.feedText(x, " 1");
        CHECK.due("its bytes are as they were", x.rule(0, 1), 0);
    }

    // "THE TAPE is empty: how many bytes it had."
    private static void wipeOfNoneAndOfAll() {
        BUSY.taken("wipe()", x -> x.wipe(), 6);
        new Bounds(CHECK, () -> withBytes(0)).taken("wipe of none", x -> x.wipe(), 0);
        new Bounds(CHECK, () -> withBytes(80)).taken("wipe of 80", x -> x.wipe(), 80);
        ColdLine x = withBytes(80);
        x.wipe();
        CHECK.due("there is room again", x.feed(0, 4), 4);
    }

    // "from an hour on, ahead of another one (0 .. 100000)"; "NO: hours (from is not ahead of to, or one beyond)"
    private static void hoursOfARule() {
        BUSY.taken("all hours", x -> x.rule(0, 100000), 2);
        BUSY.taken("the first", x -> x.rule(0, 1), 2);
        BUSY.taken("the last", x -> x.rule(99999, 100000), 2);
        int[][] refused = {{0, 0}, {1, 0}, {7, 7}, {8, 7}, {100000, 100000}, {0, 100001}, {-1, 5}, {-1, 100000},
            {-1, 0}, {-2, -1}, {100000, 100001}, {100001, 100002}, {Integer.MIN_VALUE, Integer.MAX_VALUE},
            {Integer.MIN_VALUE, 1}, {0, Integer.MAX_VALUE}, {0, Integer.MIN_VALUE}, {5, -5}};
        for (int[] hours : refused) {
            BUSY.refused("rule(" + hours[0] + ", " + hours[1] + ")", x -> x.rule(hours[0], hours[1]), ColdLine.NO);
        }
    }

    private static ColdLine withRules(int n, String tape) {
        ColdLine x = new ColdLine();
        for (int r = 0; r < n; r++) {
            Check.ruleOf(x, "vent 0", 0, 9);
        }
        Check.feedText(x, tape);
        return x;
    }

    // "RULES 0 .. 9 as they come"
    private static void tenRules() {
        for (int n = 0; n < 10; n++) {
            int rules = n;
            new Bounds(CHECK, () -> withRules(rules, "fill 1")).taken("rule " + n, x -> x.rule(0, 9), n);
        }
        new Bounds(CHECK, () -> withRules(10, "fill 1")).refused("an eleventh", x -> x.rule(0, 9), ColdLine.FULL);
    }

    // "NO: hours ..; FULL; -10 less the FAULT"
    private static void firstRefusalOfARule() {
        Bounds full = new Bounds(CHECK, () -> withRules(10, "fill x"));
        full.refused("hours, full, a fault", x -> x.rule(9, 9), ColdLine.NO);
        full.refused("full, a fault", x -> x.rule(0, 9), ColdLine.FULL);
        Bounds fullAndEmpty = new Bounds(CHECK, () -> withRules(10, ""));
        fullAndEmpty.refused("full, no text", x -> x.rule(0, 9), ColdLine.FULL);
        Bounds fault = new Bounds(CHECK, () -> withRules(9, "fill x"));
        fault.refused("hours, a fault", x -> x.rule(0, 100001), ColdLine.NO);
        fault.taken("a fault is no refusal that status tells", x -> x.rule(0, 9), -15);
    }

    // "THE TAPE is empty then"
    private static void aRuleEmptiesTheTape() {
        ColdLine x = withRules(0, "vent 1");
        x.rule(0, 9);
        CHECK.due("no bytes", x.count(4), 0);
        CHECK.due("so there is no rule on it", x.rule(0, 9), -10);
        CHECK.due("nor a second rule", x.count(3), 1);
    }

    // "(THE TAPE stays)"
    private static void aFaultLeavesTheTape() {
        ColdLine x = withRules(0, "fill");
        CHECK.due("it ends too early", x.rule(0, 9), -14);
        CHECK.due("the bytes stay", x.count(4), 4);
        Check.feedText(x, " 30 if ice<5 and");
        CHECK.due("again", x.rule(0, 9), -30);
        Check.feedText(x, " out>0");
        CHECK.due("it can go on", x.rule(0, 9), 0);
    }

    private static void rule(String text) {
        CHECK.due("'" + text + "'", Check.ruleOf(new ColdLine(), text, 0, 1), 0);
    }

    private static void fault(String text, int place) {
        Bounds tape = new Bounds(CHECK, () -> withRules(0, text));
        tape.taken("'" + text + "'", x -> x.rule(0, 1), -10 - place);
        tape.taken("'" + text + "' stays", x -> x.rule(0, 1) - x.count(4), -10 - place - text.length());
    }

    // "NUMBER: 1 to 3 digits"
    private static void oneToThreeDigits() {
        rule("fill 0");
        rule("fill 00");
        rule("fill 000");
        rule("fill 999");
        fault("fill ", 5);
        fault("fill 0000", 8);
        fault("fill 9999", 8);
        rule("fill 1 if ice=0");
        rule("fill 1 if ice=999");
        rule("fill 1 if ice=-0");
        rule("fill 1 if ice=-999");
        fault("fill 1 if ice=", 14);
        fault("fill 1 if ice=-", 15);
        fault("fill 1 if ice=0000", 17);
        fault("fill 1 if ice=-0000", 18);
        fault("fill 1 if ice=+1", 14);
        fault("fill 1 if ice=1-", 15);
        fault("fill -1", 5);
        fault("fill /", 5);
        fault("fill :", 5);
    }

    // "3 TESTS at most"
    private static void threeTestsAtMost() {
        rule("fill 1 if car=1");
        rule("fill 1 if car=1 and car=1");
        rule("fill 1 if car=1 and car=1 and car=1");
        fault("fill 1 if car=1 and car=1 and car=1 and car=1", 35);
        fault("fill 1 if car=1 and car=1 and car=1 ", 35);
        rule(LONGEST);
        fault(LONGEST + " and station=-100", LONGEST.length());
        fault(LONGEST + "0", LONGEST.length());
    }

    // "KEY blank NUMBER, and perhaps: blank if blank TEST, then ..: blank and blank TEST"; "without blanks"
    private static void blanks() {
        fault(" fill 1", 0);
        fault("fill  1", 5);
        fault("fill 1  if ice=1", 7);
        fault("fill 1 if  ice=1", 10);
        fault("fill 1 if ice =1", 13);
        fault("fill 1 if ice= 1", 14);
        fault("fill 1 if ice=- 1", 15);
        fault("fill 1 if ice=1  and ice=1", 16);
        fault("fill 1 if ice=1 and  ice=1", 20);
        fault("fill 1 ", 7);
        fault("fill 1 if ice=1 ", 16);
        fault("fill1", 4);
        fault("fill 1if ice=1", 6);
        fault("fill 1 ifice=1", 9);
        fault("fill 1 if ice=1and ice=1", 15);
        fault("fill 1 if ice=1 andice=1", 19);
        fault("fill\t1", 4);
    }

    // "KEY: fill vent"; "FIELD: ice heat out station car"; "one of = < >"
    private static void wordsByteForByte() {
        String[] fields = {"ice", "heat", "out", "station", "car"};
        for (String field : fields) {
            for (String sign : new String[] {"=", "<", ">"}) {
                rule("fill 1 if " + field + sign + "1");
                rule("vent 1 if " + field + sign + "-1");
            }
            for (int cut = 0; cut < field.length(); cut++) {
                fault("fill 1 if " + field.substring(0, cut), 10 + cut);
                fault("fill 1 if " + field.substring(0, cut) + "=1", 10 + cut);
                fault("fill 1 if " + field.substring(0, cut) + "x", 10 + cut);
            }
            fault("fill 1 if " + field + "s=1", 10 + field.length());
            fault("fill 1 if " + field + "!1", 10 + field.length());
            fault("fill 1 if " + field + "<=1", 11 + field.length());
        }
        fault("Fill 1", 0);
        fault("fiLl 1", 2);
        fault("fent 1", 1);
        fault("vill 1", 1);
        fault("venl 1", 3);
        fault("fill 1 IF ice=1", 7);
        fault("fill 1 iff ice=1", 9);
        fault("fill 1 and ice=1", 7);
        fault("fill 1 if ice=1 if ice=1", 16);
        fault("fill 1 if ice=1 or ice=1", 16);
        fault("fill 1 if ice=1 ant", 18);
    }

    private static void bytesBeyondLetters() {
        fault("\0", 0);
        fault("\u00FF", 0);
        fault("fill 1\0", 6);
        fault("fill 1\u00FF", 6);
        fault("fill \u00B1", 5);
        fault("fill 1 if \u00E9ce=1", 10);
    }

    // "(the end of THE TAPE, if it ends too early)"
    private static void theEndOfTheTape() {
        fault("", 0);
        fault("f", 1);
        fault("v", 1);
        fault("ven", 3);
        fault("vent", 4);
        fault("vent ", 5);
        fault("vent 1 ", 7);
        fault("vent 1 i", 8);
        fault("vent 1 if", 9);
        fault("vent 1 if ", 10);
        fault("vent 1 if ice", 13);
        fault("vent 1 if ice>", 14);
        fault("vent 1 if ice>-", 15);
        fault("vent 1 if ice>1 a", 17);
        fault("vent 1 if ice>1 and", 19);
        fault("vent 1 if ice>1 and ", 20);
    }

    /* Of a whole rule: every beginning of it, with and without a byte that can't stand there. */
    private static void faultsBehindEachByte() {
        String text = "vent 12 if heat>-34 and station<56 and car=789";
        for (int cut = 0; cut < text.length(); cut++) {
            String begin = text.substring(0, cut);
            fault(begin + "~", cut);
            boolean isWhole = begin.matches(".*[0-9]");
            CHECK.due("'" + begin + "'", Check.ruleOf(new ColdLine(), begin, 0, 1), isWhole ? 0 : -10 - cut);
        }
        rule(text);
        fault(text + "~", text.length());
        StringBuilder full = new StringBuilder(text);
        while (full.length() < 80) {
            full.append('~');
        }
        fault(full.toString(), text.length());
    }

    private static ColdLine cold(int cars) {
        ColdLine x = Check.lineAt(0);
        for (int c = 0; c < cars; c++) {
            x.car(0, 10, 0);
        }
        return x;
    }

    // "in force from an hour on, ahead of another one"
    private static void inForceFromAndAhead() {
        int[][] hours = {{0, 1}, {0, 2}, {1, 2}, {2, 5}, {4, 5}, {5, 6}};
        for (int[] pair : hours) {
            ColdLine x = cold(1);
            Check.ruleOf(x, "vent 1", pair[0], pair[1]);
            for (int h = 0; h < 6; h++) {
                x.vent(0, 0);
                x.run(1);
                CHECK.due(pair[0] + " to " + pair[1] + ", hour " + h, x.look(0, 5), h >= pair[0] && h < pair[1] ? 1 : 0);
            }
        }
    }

    private static void inForceToTheLastHour() {
        ColdLine x = cold(1);
        Check.ruleOf(x, "vent 1", 99999, 100000);
        for (int i = 0; i < 499; i++) {
            x.run(200);
        }
        x.run(199);
        CHECK.due("the open hour", x.count(0), 99999);
        CHECK.due("not before", x.look(0, 5), 0);
        x.run(1);
        CHECK.due("in hour 99999", x.look(0, 5), 1);
        x.vent(0, 0);
        x.run(1);
        CHECK.due("not in hour 100000", x.look(0, 5), 0);
    }

    private static int ventOf(ColdLine x, String test) {
        Check.ruleOf(x, "vent 1 if " + test, 0, 9);
        x.run(1);
        return x.look(0, 5);
    }

    private static void holdsAround(Bounds.Maker maker, String field, int v) {
        for (int bound = v - 1; bound <= v + 1; bound++) {
            CHECK.due(field + " " + v + "=" + bound, ventOf(maker.make(), field + "=" + bound), v == bound ? 1 : 0);
            CHECK.due(field + " " + v + "<" + bound, ventOf(maker.make(), field + "<" + bound), v < bound ? 1 : 0);
            CHECK.due(field + " " + v + ">" + bound, ventOf(maker.make(), field + ">" + bound), v > bound ? 1 : 0);
        }
    }

    // "all TESTS are so (heat: the greatest of its four HEATS; out: OUTSIDE; the numbers ..)"
    private static void equalLessAndMore() {
        int[] ices = {0, 1, 100};
        for (int ice : ices) {
            holdsAround(() -> {
                ColdLine x = cold(1);
                x.stock(0, 100);
                x.fill(0, ice);
                return x;
            }, "ice", ice);
        }
        int[] heats = {-400, -1, 0, 1, 500};
        for (int heat : heats) {
            holdsAround(() -> {
                ColdLine x = Check.lineAt(50);
                x.car(0, 1, -400);
                x.load(0, 2, 1, 1, 0, heat);
                return x;
            }, "heat", heat);
            holdsAround(() -> {
                ColdLine x = Check.lineAt(heat);
                x.car(0, 1, 77);
                return x;
            }, "out", heat);
        }
    }

    private static void numbersOfTests() {
        for (int s = 0; s < 8; s += 7) {
            int station = s;
            holdsAround(() -> {
                ColdLine x = Bounds.lineOf(8);
                x.car(station, 1, 0);
                return x;
            }, "station", station);
        }
        holdsAround(() -> cold(1), "car", 0);
        ColdLine ten = cold(10);
        Check.ruleOf(ten, "vent 1 if car=9", 0, 9);
        ten.run(1);
        CHECK.due("car 9", ten.look(9, 5), 1);
        CHECK.due("car 8", ten.look(8, 5), 0);
    }

    // "the vent RULE of the greatest number that HOLDS", "the fill RULE ..": 0 the least, 9 the greatest
    private static void greatestNumberThatHolds() {
        for (int holding = 0; holding <= 10; holding++) {
            ColdLine x = cold(1);
            x.stock(0, 100);
            x.vent(0, 1);
            for (int r = 0; r < 10; r++) {
                String test = r < holding ? " if car=0" : " if car=1";
                Check.ruleOf(x, (r % 2 == 0 ? "fill 1" + r : "vent " + r % 3) + test, 0, 9);
            }
            x.run(1);
            int lastFill = holding == 0 ? -1 : (holding - 1) / 2 * 2;
            int lastVent = holding < 2 ? 1 : holding / 2 * 2 - 1;
            CHECK.due(holding + " rules hold: ice", x.look(0, 4), lastFill < 0 ? 0 : 10 + lastFill);
            CHECK.due(holding + " rules hold: vent", x.look(0, 5), lastVent % 3 == 0 ? 0 : 1);
        }
    }

    // "the VENT is open, if its NUMBER isn't 0, else shut"
    private static void ventNumberZeroOrNot() {
        String[] numbers = {"0", "000", "1", "001", "2", "100", "999"};
        int[] due = {0, 0, 1, 1, 1, 1, 1};
        for (int i = 0; i < numbers.length; i++) {
            for (int before = 0; before < 2; before++) {
                ColdLine x = cold(1);
                x.vent(0, before);
                Check.ruleOf(x, "vent " + numbers[i], 0, 9);
                x.run(1);
                CHECK.due("vent " + numbers[i] + " of " + before, x.look(0, 5), due[i]);
            }
        }
        ColdLine none = cold(1);
        none.vent(0, 1);
        Check.ruleOf(none, "vent 0 if car=1", 0, 9);
        none.run(1);
        CHECK.due("no rule holds: as it was", none.look(0, 5), 1);
    }

    /** Cars with ice at station 0, with that stock and gang, after an hour with one fill rule. */
    private static ColdLine filled(int ice, int number, int stock, int gang) {
        ColdLine x = cold(2);
        x.stock(0, ice + stock);
        if (ice > 0) {
            x.fill(0, ice);
        }
        x.gang(0, gang);
        Check.ruleOf(x, "fill " + number + " if car=0", 0, 9);
        x.run(1);
        return x;
    }

    private static void iceAndShort(String when, ColdLine x, int ice, int isShort) {
        CHECK.due(when + ": ice", x.look(0, 4), ice);
        CHECK.due(when + ": short", x.look(0, 6), isShort);
    }

    // "its NUMBER (100 at most)"
    private static void fillNumberHundredAtMost() {
        iceAndShort("fill 99", filled(0, 99, 1000, 100), 99, 0);
        iceAndShort("fill 100", filled(0, 100, 1000, 100), 100, 0);
        iceAndShort("fill 101", filled(0, 101, 1000, 100), 100, 0);
        iceAndShort("fill 999", filled(0, 999, 1000, 100), 100, 0);
        iceAndShort("fill 999 without stock", filled(0, 999, 0, 100), 0, 100);
    }

    // "less ICE, 0 at least"
    private static void wantedZeroAtLeast() {
        iceAndShort("fill 0", filled(0, 0, 0, 0), 0, 0);
        iceAndShort("one less than its ice", filled(40, 39, 0, 0), 40, 0);
        iceAndShort("as much as its ice", filled(40, 40, 0, 0), 40, 0);
        iceAndShort("one more than its ice", filled(40, 41, 1, 1), 41, 0);
        iceAndShort("one more, but none there", filled(40, 41, 0, 1), 40, 1);
        iceAndShort("a full car", filled(100, 999, 10, 100), 100, 0);
    }

    // "of that no more than the STATION's STOCK"
    private static void noMoreThanTheStock() {
        iceAndShort("as much as the stock", filled(10, 60, 50, 100), 60, 0);
        iceAndShort("one more than the stock", filled(10, 61, 50, 100), 60, 1);
        CHECK.due("the stock is empty", filled(10, 60, 50, 100).at(0, 0), 0);
        CHECK.due("and never below 0", filled(10, 61, 50, 100).at(0, 0), 0);
        iceAndShort("stock less than gang", filled(0, 100, 20, 30), 20, 80);
    }

    // "and than its GANG .. is put in; what isn't is SHORT"
    private static void noMoreThanTheGang() {
        iceAndShort("as much as the gang", filled(10, 60, 1000, 50), 60, 0);
        iceAndShort("one more than the gang", filled(10, 61, 1000, 50), 60, 1);
        iceAndShort("no gang", filled(10, 60, 1000, 0), 10, 50);
        iceAndShort("gang less than stock", filled(0, 100, 30, 20), 20, 80);
        CHECK.due("the stock is less by what was put in", filled(0, 100, 30, 20).at(0, 0), 10);
    }

    // "less what it has put in in this hour", "for each CAR by numbers"
    private static void theGangOfOneHour() {
        ColdLine x = cold(4);
        x.stock(0, 1000);
        x.gang(0, 100);
        Check.ruleOf(x, "fill 40", 0, 9);
        x.run(1);
        int[] ice = {40, 40, 20, 0};
        int[] isShort = {0, 0, 20, 40};
        for (int c = 0; c < 4; c++) {
            CHECK.due("first hour: ice of " + c, x.look(c, 4), ice[c]);
            CHECK.due("first hour: short of " + c, x.look(c, 6), isShort[c]);
        }
        x.run(1);
        for (int c = 0; c < 4; c++) {
            CHECK.due("next hour: ice of " + c, x.look(c, 4), 40);
            CHECK.due("next hour: short of " + c, x.look(c, 6), isShort[c]);
        }
        CHECK.due("the stock", x.at(0, 0), 840);
    }

    private static void theGangOfEachStation() {
        ColdLine x = Check.lineAt(0);
        x.car(0, 1, 0);
        x.car(1, 1, 0);
        x.stock(0, 100);
        x.stock(1, 100);
        x.gang(0, 30);
        x.gang(1, 30);
        Check.ruleOf(x, "fill 30", 0, 9);
        x.run(1);
        CHECK.due("at 0", x.look(0, 4), 30);
        CHECK.due("at 1", x.look(1, 4), 30);
        CHECK.due("none short", x.look(0, 6) + x.look(1, 6), 0);
    }
}
