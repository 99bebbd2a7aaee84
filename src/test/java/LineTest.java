/** Promises 1 to 9: a new object and the line. */
public final class LineTest {
    private static final Check CHECK = new Check();

    public static void main(String[] args) {
        newObject();
        stations();
        stocks();
        gangs();
        prices();
        weather();
        gapsAreFilledRoundTheRow();
        read();
        out();
        losses();
        CHECK.end();
    }

    private static void newObject() {
        ColdLine x = new ColdLine();
        for (int what = 0; what <= 8; what++) {
            CHECK.due("new: count(" + what + ")", x.count(what), what == 1 ? 2 : 0);
        }
        for (int s = 0; s < 2; s++) {
            CHECK.due("new: stock", x.at(s, 0), 0);
            CHECK.due("new: gang", x.at(s, 1), 100);
            CHECK.due("new: price", x.at(s, 2), 0);
            CHECK.due("new: late", x.at(s, 3), 0);
            for (int h = 0; h < 48; h++) {
                CHECK.due("new: out", x.out(s, h), 150);
            }
        }
        CHECK.due("new: leg", x.at(0, 4), 4);
        CHECK.due("new: no leg behind the last", x.at(1, 4), -1);
        CHECK.due("new: no row", x.tear(), 0);
        for (int by = -2; by >= -8; by--) {
            CHECK.due("new: status(" + by + ")", x.status(by), 0);
        }
        int[] first = {1, 2, 3, 5, 8, 12, 18, 25, 35, 50};
        for (int b = 0; b < 10; b++) {
            CHECK.due("new: loss(" + b + ")", x.loss(b, 0), first[b]);
        }
    }

    private static void stations() {
        ColdLine x = new ColdLine();
        CHECK.due("station(0)", x.station(0), -7);
        CHECK.due("station(13)", x.station(13), -7);
        CHECK.due("station(-1)", x.station(-1), -7);
        CHECK.due("station(1)", x.station(1), 3);
        CHECK.due("station(12)", x.station(12), 4);
        CHECK.due("leg 1", x.at(1, 4), 1);
        CHECK.due("leg 2", x.at(2, 4), 12);
        CHECK.due("leg of the last", x.at(3, 4), -1);
        CHECK.due("a new one's gang", x.at(3, 1), 100);
        for (int n = 5; n <= 8; n++) {
            CHECK.due("station " + n, x.station(3), n);
        }
        CHECK.due("station when full", x.station(3), -8);
        CHECK.due("a bad leg when full", x.station(13), -7);
        CHECK.due("count", x.count(1), 8);
        CHECK.due("the last one's leg stays", x.at(7, 4), -1);
    }

    private static void stocks() {
        ColdLine x = new ColdLine();
        CHECK.due("stock(2, 1)", x.stock(2, 1), -3);
        CHECK.due("stock(-1, 1)", x.stock(-1, 1), -3);
        CHECK.due("stock(2, 10001)", x.stock(2, 10001), -3);
        CHECK.due("stock(0, 10001)", x.stock(0, 10001), -7);
        CHECK.due("stock(0, -1)", x.stock(0, -1), -7);
        CHECK.due("stock(0, MAX)", x.stock(0, Integer.MAX_VALUE), -7);
        CHECK.due("stock(0, MIN)", x.stock(0, Integer.MIN_VALUE), -7);
        for (int i = 1; i <= 10; i++) {
            CHECK.due("stock grows", x.stock(0, 10000), i * 10000);
        }
        CHECK.due("stock beyond 100000", x.stock(0, 1), -7);
        CHECK.due("stock(0, -10001)", x.stock(0, -10001), -7);
        CHECK.due("stock(0, -10000)", x.stock(0, -10000), 90000);
        CHECK.due("stock(0, 0)", x.stock(0, 0), 90000);
        CHECK.due("the other's", x.stock(1, 7), 7);
        CHECK.due("down to 0", x.stock(1, -7), 0);
    }

    private static void gangs() {
        ColdLine x = new ColdLine();
        CHECK.due("gang(2, 0)", x.gang(2, 0), -3);
        CHECK.due("gang(2, 101)", x.gang(2, 101), -3);
        CHECK.due("gang(0, 101)", x.gang(0, 101), -7);
        CHECK.due("gang(0, -1)", x.gang(0, -1), -7);
        CHECK.due("gang(0, 0)", x.gang(0, 0), 100);
        CHECK.due("gang(0, 100)", x.gang(0, 100), 0);
        CHECK.due("gang(0, 5)", x.gang(0, 5), 100);
        CHECK.due("at(0, 1)", x.at(0, 1), 5);
    }

    private static void prices() {
        ColdLine x = new ColdLine();
        CHECK.due("price(-1, 1)", x.price(-1, 1), -3);
        CHECK.due("price(0, 100)", x.price(0, 100), -7);
        CHECK.due("price(0, -1)", x.price(0, -1), -7);
        CHECK.due("price(0, 99)", x.price(0, 99), 0);
        CHECK.due("price(0, 0)", x.price(0, 0), 99);
        CHECK.due("price(0, 1)", x.price(0, 1), 0);
        CHECK.due("at(0, 2)", x.at(0, 2), 1);
    }

    private static void weather() {
        ColdLine x = new ColdLine();
        CHECK.due("weather(2, 0, 0)", x.weather(2, 0, 0), 0);
        CHECK.due("weather(0, 48, 0)", x.weather(0, 48, 0), 0);
        CHECK.due("weather(0, -1, 9000)", x.weather(0, -1, 9000), 0);
        CHECK.due("BEYOND of weather", x.status(-3), 3);
        CHECK.due("weather(0, 0, 501)", x.weather(0, 0, 501), 0);
        CHECK.due("weather(0, 0, -401)", x.weather(0, 0, -401), 0);
        CHECK.due("weather(0, 0, -9998)", x.weather(0, 0, -9998), 0);
        CHECK.due("NO of weather", x.status(-7), 3);
        CHECK.due("refused weather leaves a gap", x.weather(0, 0, 500), -9999);
        CHECK.due("weather(0, 0, -400)", x.weather(0, 0, -400), 500);
        CHECK.due("weather(0, 0, gap)", x.weather(0, 0, -9999), -400);
        CHECK.due("weather(0, 47, 1)", x.weather(0, 47, 1), -9999);
        CHECK.due("the other station's", x.weather(1, 47, 1), -9999);
    }

    private static void gapsAreFilledRoundTheRow() {
        ColdLine x = new ColdLine();
        x.weather(0, 10, -100);
        for (int h = 0; h < 48; h++) {
            CHECK.due("one number: out(0, " + h + ")", x.out(0, h), -100);
        }
        x.weather(0, 40, 200);
        for (int h = 0; h < 48; h++) {
            CHECK.due("two numbers: out(0, " + h + ")", x.out(0, h), h >= 10 && h < 40 ? -100 : 200);
        }
        x.weather(0, 40, -9999);
        CHECK.due("a gap again", x.out(0, 41), -100);
        x.weather(0, 10, -9999);
        CHECK.due("all gaps again", x.out(0, 41), 150);
    }

    private static void read() {
        ColdLine x = new ColdLine();
        CHECK.due("read(2) without a row", x.read(2), -3);
        CHECK.due("read(0) without a row", x.read(0), -2);
        x.weather(0, 5, 77);
        x.tell(0, -400);
        x.tell(1, -401);
        x.tell(2, 500);
        x.tell(3, 501);
        x.tell(4, -9999);
        x.tell(5, 9999);
        CHECK.due("read(-1)", x.read(-1), -3);
        CHECK.due("read(0)", x.read(0), 44);
        CHECK.due("out(0, 0)", x.out(0, 0), -400);
        CHECK.due("out(0, 1)", x.out(0, 1), -400);
        CHECK.due("out(0, 2)", x.out(0, 2), 500);
        CHECK.due("out(0, 5)", x.out(0, 5), 500);
        CHECK.due("out(0, 6)", x.out(0, 6), 0);
        CHECK.due("weather(0, 5) is a gap", x.weather(0, 5, 0), -9999);
        CHECK.due("weather(0, 3) is a gap", x.weather(0, 3, 0), -9999);
        CHECK.due("the row stays", x.row(3), 501);
        CHECK.due("the other station's stays", x.out(1, 0), 150);
    }

    private static void out() {
        ColdLine x = new ColdLine();
        x.weather(0, 0, 10);
        x.weather(0, 1, 20);
        CHECK.due("out(0, 48)", x.out(0, 48), 10);
        CHECK.due("out(0, 49)", x.out(0, 49), 20);
        CHECK.due("out(0, 4800000)", x.out(0, 4800000), 10);
        CHECK.due("out(0, MAX)", x.out(0, Integer.MAX_VALUE), 20);
        CHECK.due("out(0, -1)", x.out(0, -1), 0);
        CHECK.due("out(2, 0)", x.out(2, 0), 0);
        CHECK.due("BEYOND of out", x.status(-3), 2);
    }

    private static void losses() {
        ColdLine x = Check.lineAt(120);
        CHECK.due("loss(10, 1000)", x.loss(10, 1000), -3);
        CHECK.due("loss(-1, 0)", x.loss(-1, 0), -3);
        CHECK.due("loss(9, 1000)", x.loss(9, 1000), -7);
        CHECK.due("loss(9, -1)", x.loss(9, -1), -7);
        CHECK.due("loss(2, 999)", x.loss(2, 999), 3);
        CHECK.due("loss(2, 7)", x.loss(2, 7), 999);
        x.car(0, 1, 120);
        x.load(0, 0, 1, 100, 0, 120);
        x.run(1);
        CHECK.due("the table's new number is lost", x.tier(0, 0, 3), 93);
        ColdLine other = new ColdLine();
        CHECK.due("another object's table", other.loss(2, 0), 3);
    }
}
