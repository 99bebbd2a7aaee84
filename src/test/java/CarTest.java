/** Promises 10 to 18: cars and loads, without what hours do to them. */
public final class CarTest {
    private static final Check CHECK = new Check();

    public static void main(String[] args) {
        cars();
        loads();
        loadsThatAreRefused();
        tiers();
        fill();
        vent();
        send();
        turnOnALeg();
        turnAtAStation();
        late();
        look();
        CHECK.end();
    }

    private static void cars() {
        ColdLine x = new ColdLine();
        CHECK.due("car(2, 0, 0)", x.car(2, 0, 0), -3);
        CHECK.due("car(-1, 1, 0)", x.car(-1, 1, 0), -3);
        CHECK.due("car(0, 0, 0)", x.car(0, 0, 0), -7);
        CHECK.due("car(0, 41, 0)", x.car(0, 41, 0), -7);
        CHECK.due("car(0, 1, 501)", x.car(0, 1, 501), -7);
        CHECK.due("car(0, 1, -401)", x.car(0, 1, -401), -7);
        for (int c = 0; c < 10; c++) {
            CHECK.due("car " + c, x.car(c % 2, c == 0 ? 1 : 40, c == 0 ? -400 : 500), c);
        }
        CHECK.due("car when full", x.car(0, 1, 0), -8);
        CHECK.due("a bad car when full", x.car(0, 0, 0), -7);
        CHECK.due("count(2)", x.count(2), 10);
        for (int t = 0; t < 4; t++) {
            CHECK.due("heat of car 0", x.tier(0, t, 0), -400);
            CHECK.due("heat of car 1", x.tier(1, t, 0), 500);
            CHECK.due("it is empty", x.tier(1, t, 1), -1);
        }
        CHECK.due("station of car 1", x.look(1, 0), 1);
    }

    private static void loads() {
        ColdLine x = new ColdLine();
        x.car(0, 1, 100);
        CHECK.due("LOAD on 0", x.load(0, 0, 1, 1, 0, -400), 1);
        CHECK.due("SOFT on 1", x.load(0, 11, 500, 10000, -5, 500), 500);
        CHECK.due("FIRM on 2", x.load(0, 22, 2, 20, 99, 0), 2);
        CHECK.due("MIXED on 3", x.load(0, 43, 3, 30, 1000, 7), 3);
        int[][] due = {{-400, 0, 1, 1, -1}, {500, 1, 500, 10000, -1}, {0, 2, 2, 20, 99}, {7, 4, 3, 30, -1}};
        for (int t = 0; t < 4; t++) {
            for (int what = 0; what <= 4; what++) {
                CHECK.due("tier(0, " + t + ", " + what + ")", x.tier(0, t, what), due[t][what]);
            }
        }
    }

    private static void loadsThatAreRefused() {
        ColdLine x = new ColdLine();
        x.car(0, 1, 100);
        CHECK.due("no such car", x.load(1, 0, 1, 1, 0, 0), -3);
        CHECK.due("told below 0", x.load(0, -1, 1, 1, 0, 0), -3);
        CHECK.due("told -10", x.load(0, -10, 1, 1, 0, 0), -3);
        CHECK.due("tier 4", x.load(0, 4, 1, 1, 0, 0), -3);
        CHECK.due("tier 9 of no kind", x.load(0, 99, 1, 1, 0, 0), -3);
        CHECK.due("told MIN", x.load(0, Integer.MIN_VALUE, 1, 1, 0, 0), -3);
        CHECK.due("kind 5", x.load(0, 50, 1, 1, 0, 0), -7);
        CHECK.due("a great kind", x.load(0, 2147483640, 1, 1, 0, 0), -7);
        CHECK.due("baskets 0", x.load(0, 0, 0, 1, 0, 0), -7);
        CHECK.due("baskets 501", x.load(0, 0, 501, 1, 0, 0), -7);
        CHECK.due("life 0", x.load(0, 0, 1, 0, 0, 0), -7);
        CHECK.due("life 10001", x.load(0, 0, 1, 10001, 0, 0), -7);
        CHECK.due("ripe 0 of FIRM", x.load(0, 20, 1, 1, 0, 0), -7);
        CHECK.due("ripe 100 of FIRM", x.load(0, 20, 1, 1, 100, 0), -7);
        CHECK.due("heat 501", x.load(0, 0, 1, 1, 0, 501), -7);
        CHECK.due("heat -401", x.load(0, 0, 1, 1, 0, -401), -7);
        CHECK.due("heat stays", x.tier(0, 0, 0), 100);
        x.load(0, 0, 1, 1, 0, 50);
        CHECK.due("the tier has one", x.load(0, 0, 1, 1, 0, 60), -7);
        CHECK.due("its heat stays", x.tier(0, 0, 0), 50);
        x.send(0, 1);
        CHECK.due("it goes", x.load(0, 1, 1, 1, 0, 0), -7);
        x.run(5);
        CHECK.due("it has come", x.load(0, 1, 1, 1, 0, 0), 1);
    }

    private static void tiers() {
        ColdLine x = new ColdLine();
        CHECK.due("no car", x.tier(0, 0, 0), 0);
        x.car(0, 1, 100);
        CHECK.due("tier 4", x.tier(0, 4, 9), 0);
        CHECK.due("tier -1", x.tier(0, -1, 0), 0);
        CHECK.due("BEYOND of tier", x.status(-3), 3);
        CHECK.due("what 5", x.tier(0, 0, 5), 0);
        CHECK.due("what -1", x.tier(0, 0, -1), 0);
        CHECK.due("NO of tier", x.status(-7), 2);
        for (int what = 1; what <= 4; what++) {
            CHECK.due("no load: " + what, x.tier(0, 0, what), -1);
        }
        CHECK.due("NONE is no refusal", x.status(-3) + x.status(-7), 5);
    }

    private static void fill() {
        ColdLine x = new ColdLine();
        CHECK.due("no car", x.fill(0, 0), -3);
        x.car(1, 1, 100);
        x.stock(0, 500);
        CHECK.due("another station's stock", x.fill(0, 1), -7);
        x.stock(1, 150);
        CHECK.due("fill 0", x.fill(0, 0), -7);
        CHECK.due("fill -1", x.fill(0, -1), -7);
        CHECK.due("fill 101", x.fill(0, 101), -7);
        CHECK.due("fill MAX", x.fill(0, Integer.MAX_VALUE), -7);
        CHECK.due("fill 1", x.fill(0, 1), 1);
        CHECK.due("fill 100, 101 together", x.fill(0, 100), -7);
        CHECK.due("fill 99", x.fill(0, 99), 100);
        CHECK.due("look at ice", x.look(0, 4), 100);
        CHECK.due("the stock", x.at(1, 0), 50);
        CHECK.due("put in", x.count(5), 100);
        x.car(1, 1, 100);
        CHECK.due("more than the stock", x.fill(1, 51), -7);
        CHECK.due("all of the stock", x.fill(1, 50), 50);
        x.stock(1, 100);
        x.send(1, 0);
        CHECK.due("it goes but is at a station", x.fill(1, 1), 51);
        x.run(1);
        CHECK.due("it is on a leg", x.fill(1, 1), -7);
    }

    private static void vent() {
        ColdLine x = new ColdLine();
        CHECK.due("no car", x.vent(0, 2), -3);
        x.car(0, 1, 100);
        CHECK.due("vent 2", x.vent(0, 2), -7);
        CHECK.due("vent -1", x.vent(0, -1), -7);
        CHECK.due("open it", x.vent(0, 1), 0);
        CHECK.due("open again", x.vent(0, 1), 1);
        x.send(0, 1);
        x.run(1);
        CHECK.due("shut it on a leg", x.vent(0, 0), 1);
        CHECK.due("look", x.look(0, 5), 0);
    }

    private static ColdLine fourStations() {
        ColdLine x = new ColdLine();
        x.station(2);
        x.station(5);
        return x;
    }

    private static void send() {
        ColdLine x = fourStations();
        CHECK.due("no car", x.send(0, 1), -3);
        x.car(1, 1, 100);
        CHECK.due("no end", x.send(0, 4), -3);
        CHECK.due("end -1", x.send(0, -1), -3);
        CHECK.due("it is at that", x.send(0, 1), -7);
        CHECK.due("send up", x.send(0, 3), 7);
        CHECK.due("it goes", x.send(0, 0), -7);
        CHECK.due("its end", x.look(0, 1), 3);
        x.car(3, 1, 100);
        CHECK.due("send down", x.send(1, 0), 11);
        x.run(60);
        CHECK.due("it has come", x.look(0, 7), 1);
        CHECK.due("send again", x.send(0, 0), 11);
        CHECK.due("it has not come any more", x.look(0, 7), 0);
    }

    private static void turnOnALeg() {
        ColdLine x = fourStations();
        CHECK.due("no car", x.turn(0, 1), -3);
        x.car(1, 1, 100);
        CHECK.due("no end", x.turn(0, 4), -3);
        CHECK.due("it doesn't go", x.turn(0, 2), -7);
        x.send(0, 2);
        x.run(2);
        CHECK.due("one hour of the leg is left", x.look(0, 2), 1);
        CHECK.due("behind", x.turn(0, 0), -7);
        CHECK.due("where the leg led from", x.turn(0, 1), -7);
        CHECK.due("further on", x.turn(0, 3), 6);
        CHECK.due("the same", x.turn(0, 3), 6);
        CHECK.due("to where the leg leads", x.turn(0, 2), 1);
        CHECK.due("it comes there", x.run(1), 1);
        CHECK.due("it is there", x.look(0, 0), 2);
        x.send(0, 1);
        x.run(1);
        CHECK.due("downwards: behind", x.turn(0, 3), -7);
        CHECK.due("downwards: from", x.turn(0, 2), -7);
        CHECK.due("downwards: further", x.turn(0, 0), 6);
        CHECK.due("downwards: the next", x.turn(0, 1), 2);
    }

    private static void turnAtAStation() {
        ColdLine x = fourStations();
        x.late(1, 3);
        x.car(1, 1, 100);
        x.send(0, 3);
        x.run(1);
        CHECK.due("where it is at", x.turn(0, 1), -7);
        CHECK.due("the other way", x.turn(0, 0), 4);
        CHECK.due("it still has to stand", x.look(0, 3), 2);
        CHECK.due("back", x.turn(0, 2), 2);
        x.turn(0, 0);
        x.run(3);
        CHECK.due("it set out the other way", x.look(0, 2), 4);
        x.run(4);
        CHECK.due("and came", x.look(0, 0), 0);
    }

    private static void late() {
        ColdLine x = new ColdLine();
        CHECK.due("late(2, 49)", x.late(2, 49), -3);
        CHECK.due("late(0, 49)", x.late(0, 49), -7);
        CHECK.due("late(0, -1)", x.late(0, -1), -7);
        CHECK.due("late(0, 48)", x.late(0, 48), 0);
        CHECK.due("late(0, 1)", x.late(0, 1), 48);
        CHECK.due("at(0, 3)", x.at(0, 3), 1);
        x.car(0, 1, 100);
        CHECK.due("it stands only when it is sent", x.look(0, 3), 0);
        x.send(0, 1);
        x.late(0, 9);
        CHECK.due("as late was then", x.look(0, 3), 1);
    }

    private static void look() {
        ColdLine x = new ColdLine();
        CHECK.due("no car", x.look(0, 9), -3);
        x.car(0, 1, 100);
        CHECK.due("what 8", x.look(0, 8), -7);
        CHECK.due("what -1", x.look(0, -1), -7);
        int[] first = {0, -1, 0, 0, 0, 0, 0, 0};
        for (int what = 0; what < 8; what++) {
            CHECK.due("look(0, " + what + ")", x.look(0, what), first[what]);
        }
        x.send(0, 1);
        x.run(1);
        CHECK.due("from which its leg led", x.look(0, 0), 0);
        CHECK.due("its end", x.look(0, 1), 1);
        CHECK.due("hours of its leg", x.look(0, 2), 4);
        x.run(4);
        int[] last = {1, -1, 0, 0, 0, 0, 0, 1};
        for (int what = 0; what < 8; what++) {
            CHECK.due("come: look(0, " + what + ")", x.look(0, what), last[what]);
        }
    }
}
