/** All that a line answers after a call, as a text: two lines with the same texts are alike. */
final class Later {
    /* Each kind of asking changes what it asks, so it has a line of its own. */
    static final int KINDS = 3;

    private Later() {
    }

    static int[] refusals(ColdLine x) {
        int[] all = new int[7];
        for (int i = 0; i < all.length; i++) {
            all[i] = x.status(-(i + 2));
        }
        return all;
    }

    static String answers(ColdLine x, int kind) {
        StringBuilder s = new StringBuilder();
        switch (kind) {
            case 0:
                state(s, x);
                break;
            case 1:
                weatherAndLosses(s, x);
                break;
            default:
                hoursToCome(s, x);
        }
        return s.toString();
    }

    private static void put(StringBuilder s, int answer) {
        s.append(answer).append(' ');
    }

    private static void state(StringBuilder s, ColdLine x) {
        for (int what = 0; what <= 8; what++) {
            put(s, x.count(what));
        }
        for (int station = 0; station < x.count(1); station++) {
            for (int what = 0; what <= 4; what++) {
                put(s, x.at(station, what));
            }
        }
        for (int car = 0; car < x.count(2); car++) {
            car(s, x, car);
        }
        for (int i = 0; i < 48; i++) {
            put(s, x.row(i));
        }
        put(s, x.tear());
    }

    private static void car(StringBuilder s, ColdLine x, int car) {
        for (int what = 0; what <= 7; what++) {
            put(s, x.look(car, what));
        }
        for (int tier = 0; tier < 4; tier++) {
            for (int what = 0; what <= 4; what++) {
                put(s, x.tier(car, tier, what));
            }
        }
        for (int part = 0; part <= 2; part++) {
            put(s, x.claim(car, part));
        }
        put(s, x.best(car));
    }

    private static void weatherAndLosses(StringBuilder s, ColdLine x) {
        for (int station = 0; station < x.count(1); station++) {
            for (int hour = 0; hour < 48; hour++) {
                put(s, x.weather(station, hour, 0));
            }
        }
        for (int b = 0; b < 10; b++) {
            put(s, x.loss(b, 0));
        }
    }

    private static void hoursToCome(StringBuilder s, ColdLine x) {
        put(s, x.rule(0, 100000));
        put(s, x.wipe());
        for (int h = 0; h < 12; h++) {
            put(s, x.run(1 + h % 3));
            for (int car = 0; car < x.count(2); car++) {
                put(s, x.look(car, 0));
                put(s, x.look(car, 4));
                put(s, x.look(car, 5));
                put(s, x.tier(car, 0, 3));
                put(s, x.sell(car));
            }
        }
    }
}
