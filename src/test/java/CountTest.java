/** Promises 27, 28 and 33: count, at and status. */
public final class CountTest {
    private static final Check CHECK = new Check();

    public static void main(String[] args) {
        count();
        at();
        status();
        statusOfEachRefusal();
        CHECK.end();
    }

    private static void count() {
        ColdLine x = Check.lineAt(150);
        CHECK.due("count(9)", x.count(9), -7);
        CHECK.due("count(-1)", x.count(-1), -7);
        x.station(1);
        x.car(0, 1, 150);
        x.car(1, 1, 150);
        Check.ruleOf(x, "vent 0", 0, 1);
        x.stock(0, 40);
        x.fill(0, 20);
        x.price(1, 10);
        x.load(0, 0, 500, 1000, 0, -100);
        x.loss(0, 0);
        x.send(0, 1);
        x.run(1);
        x.feed(0, 3);
        CHECK.due("hour", x.count(0), 1);
        CHECK.due("stations", x.count(1), 3);
        CHECK.due("cars", x.count(2), 2);
        CHECK.due("rules", x.count(3), 1);
        CHECK.due("bytes", x.count(4), 3);
        CHECK.due("put in", x.count(5), 20);
        CHECK.due("used, of 450", x.count(6), 4);
        CHECK.due("not sold", x.count(7), 0);
        CHECK.due("brought nothing", x.count(8), 0);
        x.run(4);
        CHECK.due("sell", x.sell(0), 5000);
        CHECK.due("sold", x.count(7), 1);
        CHECK.due("brought", x.count(8), 5000);
        CHECK.due("hour", x.count(0), 5);
    }

    private static void at() {
        ColdLine x = new ColdLine();
        x.station(9);
        CHECK.due("at(3, 9)", x.at(3, 9), -3);
        CHECK.due("at(-1, 0)", x.at(-1, 0), -3);
        CHECK.due("at(0, 5)", x.at(0, 5), -7);
        CHECK.due("at(0, -1)", x.at(0, -1), -7);
        x.stock(1, 11);
        x.gang(1, 12);
        x.price(1, 13);
        x.late(1, 14);
        int[] due = {11, 12, 13, 14, 9};
        for (int what = 0; what < 5; what++) {
            CHECK.due("at(1, " + what + ")", x.at(1, what), due[what]);
        }
        CHECK.due("at(2, 4)", x.at(2, 4), -1);
    }

    private static void status() {
        ColdLine x = new ColdLine();
        CHECK.due("status(-1)", x.status(-1), -7);
        CHECK.due("status(-9)", x.status(-9), -7);
        CHECK.due("status(0)", x.status(0), -7);
        CHECK.due("status(MIN)", x.status(Integer.MIN_VALUE), -7);
        CHECK.due("status itself was refused", x.status(-7), 4);
        CHECK.due("asking again changes nothing", x.status(-7), 4);
        CHECK.due("no KIND is told", x.status(-5), 0);
    }

    private static void statusOfEachRefusal() {
        ColdLine x = new ColdLine();
        x.read(0);
        x.row(0);
        CHECK.due("MISSING", x.status(-2), 2);
        x.stock(9, 0);
        x.out(9, 0);
        x.tier(0, 0, 0);
        CHECK.due("BEYOND", x.status(-3), 3);
        x.run(-1);
        x.feed(0, -1);
        CHECK.due("BELOW", x.status(-4), 2);
        x.tell(0, 0);
        x.copy(-1, 0, 0);
        CHECK.due("COPY", x.status(-6), 1);
        x.weather(0, 0, 1000);
        x.station(0);
        CHECK.due("NO", x.status(-7), 2);
        for (int n = 0; n < 7; n++) {
            x.station(1);
        }
        CHECK.due("FULL", x.status(-8), 1);
    }
}
