import java.util.Random;
import java.util.regex.Matcher;
import java.util.regex.Pattern;

/** Promises 19 to 21: the tape and the rules that are read from it. */
public final class RuleTest {
    private static final Check CHECK = new Check();
    private static final String TEST = "(ice|heat|out|station|car)[=<>]-?[0-9]{1,3}";
    private static final Pattern RULE =
            Pattern.compile("(fill|vent) [0-9]{1,3}( if " + TEST + "( and " + TEST + "){0,2})?");

    public static void main(String[] args) {
        feed();
        wipe();
        hours();
        full();
        texts();
        faults();
        faultsOfRandomTexts();
        CHECK.end();
    }

    private static void feed() {
        ColdLine x = new ColdLine();
        CHECK.due("feed(0, -1)", x.feed(0, -1), -4);
        CHECK.due("feed(0, 5)", x.feed(0, 5), -7);
        CHECK.due("feed(0, 0)", x.feed(0, 0), 0);
        CHECK.due("feed 1", x.feed(0x66, 1), 1);
        CHECK.due("feed the lowest of four", x.feed(0x11226969, 1), 2);
        CHECK.due("feed 3", x.feed(0xAA6C6C20, 3), 5);
        CHECK.due("feed 2", x.feed(0x3132, 2), 7);
        CHECK.due("count(4)", x.count(4), 7);
        CHECK.due("they are a rule", x.rule(0, 1), 0);
        for (int n = 4; n <= 76; n += 4) {
            CHECK.due("feed up", x.feed(0, 4), n);
        }
        CHECK.due("78", x.feed(0, 2), 78);
        CHECK.due("no room for 3", x.feed(0, 3), -8);
        CHECK.due("room for 2", x.feed(0, 2), 80);
        CHECK.due("no room for 1", x.feed(0, 1), -8);
        CHECK.due("room for 0", x.feed(0, 0), 80);
        CHECK.due("n first", x.feed(0, 5), -7);
    }

    private static void wipe() {
        ColdLine x = new ColdLine();
        CHECK.due("wipe of none", x.wipe(), 0);
        Check.feedText(x, "fill 1 if");
        CHECK.due("wipe", x.wipe(), 9);
        CHECK.due("wipe again", x.wipe(), 0);
        CHECK.due("count(4)", x.count(4), 0);
    }

    private static void hours() {
        ColdLine x = new ColdLine();
        Check.feedText(x, "fill 1");
        CHECK.due("from is to", x.rule(5, 5), -7);
        CHECK.due("from behind to", x.rule(6, 5), -7);
        CHECK.due("from below 0", x.rule(-1, 5), -7);
        CHECK.due("to beyond", x.rule(0, 100001), -7);
        CHECK.due("both beyond", x.rule(100001, 100002), -7);
        CHECK.due("the tape stays", x.count(4), 6);
        CHECK.due("all hours", x.rule(0, 100000), 0);
        CHECK.due("the tape is empty", x.count(4), 0);
        Check.feedText(x, "fill 1");
        CHECK.due("the last hour", x.rule(99999, 100000), 1);
    }

    private static void full() {
        ColdLine x = new ColdLine();
        for (int r = 0; r < 10; r++) {
            CHECK.due("rule " + r, Check.ruleOf(x, "vent " + r, 0, 9), r);
        }
        CHECK.due("an eleventh", Check.ruleOf(x, "vent 0", 0, 9), -8);
        CHECK.due("a fault when full", Check.ruleOf(x, "ventt", 0, 9), -8);
        CHECK.due("hours when full", Check.ruleOf(x, "vent 0", 9, 9), -7);
        CHECK.due("count(3)", x.count(3), 10);
    }

    private static void texts() {
        String[] good = {"fill 0", "fill 12", "vent 999", "fill 007", "fill 1 if ice=0", "vent 1 if heat>-999",
            "fill 1 if out<-0", "fill 100 if station=1 and car=2", "fill 1 if ice<5 and ice<5 and ice<5",
            "fill 999 if station>-999 and station<-999 and station=-999"};
        for (String text : good) {
            CHECK.due(text, Check.ruleOf(new ColdLine(), text, 0, 1), 0);
        }
    }

    private static void faults() {
        fault("", 0);
        fault(" fill 1", 0);
        fault("x", 0);
        fault("Fill 1", 0);
        fault("fi", 2);
        fault("fint 1", 2);
        fault("vill 1", 1);
        fault("fill", 4);
        fault("fill1", 4);
        fault("fill ", 5);
        fault("fill  1", 5);
        fault("fill -1", 5);
        fault("fill 1000", 8);
        fault("fill 1 ", 7);
        fault("fill 1x", 6);
        fault("fill 1 and ice=1", 7);
        fault("fill 1 if", 9);
        fault("fill 1 if ", 10);
        fault("fill 1 if  ", 10);
        fault("fill 1 if foo=1", 10);
        fault("fill 1 if ice", 13);
        fault("fill 1 if ice =1", 13);
        fault("fill 1 if ice=", 14);
        fault("fill 1 if ice= 1", 14);
        fault("fill 1 if ice==1", 14);
        fault("fill 1 if ice=-", 15);
        fault("fill 1 if ice=-x", 15);
        fault("fill 1 if ice=--1", 15);
        fault("fill 1 if ice=1234", 17);
        fault("fill 1 if ice=1 ", 16);
        fault("fill 1 if ice=1 if ice=1", 16);
        fault("fill 1 if ice=1 and", 19);
        fault("fill 1 if ice=1 and ", 20);
        fault("fill 1 if ice=1 and ice=1 and ice=1 ", 35);
        fault("fill 1 if ice=1 and ice=1 and ice=1 and ice=1", 35);
        fault("fill 1\0", 6);
    }

    private static void fault(String text, int place) {
        ColdLine x = new ColdLine();
        CHECK.due("'" + text + "'", Check.ruleOf(x, text, 0, 1), -10 - place);
        CHECK.due("'" + text + "' stays", x.count(4), text.length());
        CHECK.due("'" + text + "' is no rule", x.count(3), 0);
        int refused = 0;
        for (int by = -2; by >= -8; by--) {
            refused += x.status(by);
        }
        CHECK.due("a fault is none of the refusals", refused, 0);
    }

    /** Texts that are almost rules, against what the library's own patterns say of them. */
    private static void faultsOfRandomTexts() {
        Random random = new Random(7);
        String[] bits = {"fill", "vent", " ", " ", "if", "and", "ice", "heat", "out", "station", "car", "=", "<", ">",
            "-", "1", "23", "456", "0", " if ", " and ", "fill 1 if ice=1", "fill 20 if out<-5 and car=1", "x", "i"};
        for (int n = 0; n < 20000; n++) {
            StringBuilder text = new StringBuilder();
            int parts = 1 + random.nextInt(12);
            for (int p = 0; p < parts; p++) {
                String bit = p == 0 && random.nextInt(3) > 0 ? "fill 1 if ice=1" : bits[random.nextInt(bits.length)];
                if (text.length() + bit.length() <= 80) {
                    text.append(bit);
                }
            }
            String made = text.toString();
            CHECK.due("'" + made + "'", Check.ruleOf(new ColdLine(), made, 0, 1), answerByPattern(made));
        }
    }

    private static int answerByPattern(String text) {
        for (int end = 1; end <= text.length(); end++) {
            Matcher matcher = RULE.matcher(text.substring(0, end));
            if (!matcher.matches() && !matcher.hitEnd()) {
                return -10 - (end - 1);
            }
        }
        return RULE.matcher(text).matches() ? 0 : -10 - text.length();
    }
}
