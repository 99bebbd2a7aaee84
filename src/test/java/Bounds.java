/**
 * Calls at a bound. Each one goes to a line made anew; a refused one is held against a twin that
 * was not called, by all that both answer later.
 */
final class Bounds {
    interface Maker {
        ColdLine make();
    }

    interface Call {
        int on(ColdLine x);
    }

    interface CallWith {
        int on(ColdLine x, int v);
    }

    private final Check check;
    private final Maker maker;

    Bounds(Check check, Maker maker) {
        this.check = check;
        this.maker = maker;
    }

    /** The call is answered so, and counts as no refusal. */
    void taken(String call, Call c, int want) {
        ColdLine x = maker.make();
        int[] before = Later.refusals(x);
        check.due(call, c.on(x), want);
        counted(call, before, Later.refusals(x), 0);
    }

    /** The call counts as no refusal, whatever it answers. */
    void accepted(String call, Call c) {
        ColdLine x = maker.make();
        int[] before = Later.refusals(x);
        c.on(x);
        counted(call, before, Later.refusals(x), 0);
    }

    void refused(String call, Call c, int by) {
        refuses(call, c, by, by);
    }

    void refusedByZero(String call, Call c, int by) {
        refuses(call, c, 0, by);
    }

    private void refuses(String call, Call c, int answer, int by) {
        for (int kind = 0; kind < Later.KINDS; kind++) {
            ColdLine x = maker.make();
            int[] before = Later.refusals(x);
            check.due(call, c.on(x), answer);
            counted(call, before, Later.refusals(x), by);
            String due = Later.answers(maker.make(), kind);
            check.so(call + " changes nothing", Later.answers(x, kind).equals(due));
        }
    }

    private void counted(String call, int[] before, int[] after, int by) {
        for (int i = 0; i < before.length; i++) {
            check.due(call + ": status(" + -(i + 2) + ") more", after[i] - before[i], -(i + 2) == by ? 1 : 0);
        }
    }

    /** The least and the most of a number are taken; all beyond them is refused. */
    void edges(String call, CallWith c, int[] leastAndDue, int[] mostAndDue, int by) {
        taken(call + " at " + leastAndDue[0], x -> c.on(x, leastAndDue[0]), leastAndDue[1]);
        taken(call + " at " + mostAndDue[0], x -> c.on(x, mostAndDue[0]), mostAndDue[1]);
        for (int v : beyond(leastAndDue[0], mostAndDue[0])) {
            refused(call + " at " + v, x -> c.on(x, v), by);
        }
    }

    void edgesByZero(String call, CallWith c, int[] leastAndDue, int[] mostAndDue, int by) {
        taken(call + " at " + leastAndDue[0], x -> c.on(x, leastAndDue[0]), leastAndDue[1]);
        taken(call + " at " + mostAndDue[0], x -> c.on(x, mostAndDue[0]), mostAndDue[1]);
        for (int v : beyond(leastAndDue[0], mostAndDue[0])) {
            refusedByZero(call + " at " + v, x -> c.on(x, v), by);
        }
    }

    private static int[] beyond(int least, int most) {
        return new int[] {least - 1, most + 1, Integer.MIN_VALUE, Integer.MAX_VALUE};
    }

    static int[] at(int v, int due) {
        return new int[] {v, due};
    }

    /**
     * A line in the midst of its work, its open hour 3: four stations with legs of 4, 2 and 1, two
     * rules, half a text on the tape, a row, and five cars. Car 0 rests at 0 with a load and ice;
     * 1 is on the leg from 0 to 1, 2 hours left, its end 3; 2 stands at 1 for 2 hours more, its
     * end 3; 3 has come to 3 with a load; 4 was sold there.
     */
    static ColdLine busyLine() {
        ColdLine x = new ColdLine();
        x.station(2);
        x.station(1);
        x.weather(0, 0, 200);
        x.weather(0, 5, 250);
        x.weather(1, 0, 100);
        x.weather(2, 10, -50);
        x.stock(0, 500);
        x.stock(1, 300);
        x.stock(2, 50);
        x.gang(1, 20);
        x.price(1, 20);
        x.price(3, 30);
        x.late(1, 5);
        x.loss(3, 6);
        Check.ruleOf(x, "fill 80 if ice<20 and station=1", 0, 1000);
        Check.ruleOf(x, "vent 1 if out<0", 0, 1000);
        int[] stations = {0, 0, 1, 2, 2};
        for (int c = 0; c < stations.length; c++) {
            x.car(stations[c], 5 + c, 120);
            x.load(c, 10 * c, 300, 2000, 7, 130);
        }
        x.fill(0, 40);
        for (int c = 1; c < stations.length; c++) {
            x.send(c, 3);
        }
        x.run(3);
        x.sell(4);
        Check.feedText(x, "fill 1");
        x.tell(0, 100);
        x.tell(47, -7);
        return x;
    }

    /** A line of n stations, with legs of 1 but for the first. */
    static ColdLine lineOf(int n) {
        ColdLine x = new ColdLine();
        for (int s = 2; s < n; s++) {
            x.station(1);
        }
        return x;
    }
}
