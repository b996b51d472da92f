/** Long mixed runs of calls, each answer compared with the oracle's; the same runs each time. */
public final class AgainstOracleTest {
    private long state;
    private final int run;
    private final StarCustody x = new StarCustody();
    private final Oracle y = new Oracle();
    private int calls = 0;

    private AgainstOracleTest(int run) {
        this.run = run;
        this.state = run * 7919L;
    }

    public static void main(String[] args) {
        int runs = args.length > 0 ? Integer.parseInt(args[0]) : 400;
        for (int run = 1; run <= runs; run++) {
            new AgainstOracleTest(run).go();
        }
        for (int run = 1; run <= runs * 5; run++) {
            new AgainstOracleTest(run).goSky();
        }
        Check.end("AgainstOracleTest");
    }

    private void due(String what, long got, long want) {
        calls++;
        Check.due("run " + run + ", call " + calls + ": " + what, got, want);
    }

    /** A number that depends on the run and on the calls of this alone: the runs are the same each time. */
    private int next() {
        state = state * 6364136223846793005L + 1442695040888963407L;
        return (int) (state >>> 32);
    }

    private int any(int least, int most) {
        return least + Math.floorMod(next() >>> 3, most - least + 1);
    }

    /** Mostly least .. most, now and then outside, near or far. */
    private int about(int least, int most) {
        switch (any(0, 39)) {
            case 0: return any(least - 2, most + 2);
            case 1: return any(0, 1) == 0 ? least - 1 : most + 1;
            case 2: return new int[] {Integer.MIN_VALUE, Integer.MAX_VALUE, next()}[any(0, 2)];
            default: return any(least, most);
        }
    }

    private int aLight() {
        int lights = x.count(0);
        return about(0, Math.max(lights - 1, 0));
    }

    private void goSky() {
        feed(spoilt(aSky()));
        due("sky", x.sky(), y.sky());
    }

    private void go() {
        int early = any(0, 7);
        for (int i = 0; i < early; i++) {
            light();
        }
        if (any(0, 3) > 0) {
            feed(aSky());
            due("sky", x.sky(), y.sky());
        }
        while (calls < 480) {
            step(any(0, 35));
        }
    }

    private void feed(String text) {
        for (int i = 0; i < text.length(); i++) {
            due("feed " + text.charAt(i), x.feed(text.charAt(i)), y.feed(text.charAt(i)));
        }
    }

    private void light() {
        int kind = about(0, 6);
        int v = any(0, 2) == 0 ? about(0, 9) : any(0, 2);
        int round = any(0, 2) == 0 ? about(1, 30) : any(1, 6);
        int phase = about(0, 29);
        due("light " + kind + " " + v + " " + round + " " + phase, x.light(kind, v, round, phase), y.light(kind, v, round, phase));
    }

    private String number() {
        return "" + (any(0, 2) > 0 ? any(0, 9) : any(0, 99));
    }

    private String aFactor(int open) {
        int how = any(0, 5);
        if (open < 5 && how == 0) {
            return "!" + aFactor(open + 1);
        }
        if (open < 5 && how == 1) {
            return "(" + anE(open + 1) + ")";
        }
        return "" + "pkvhnm".charAt(any(0, 5)) + "<=>".charAt(any(0, 2)) + (any(0, 5) == 0 ? number() : "" + any(0, 6));
    }

    private String anE(int open) {
        StringBuilder s = new StringBuilder(aFactor(open));
        while (any(0, 2) == 0) {
            s.append(any(0, 1) == 0 ? '|' : '&').append(aFactor(open));
        }
        return s.toString();
    }

    private String aClause() {
        switch (any(0, 5)) {
            case 0: return "turn " + number();
            case 1: return "cloud " + number();
            case 2: case 3: return "dear " + number() + " " + anE(0);
            default: return "dim " + number() + " " + anE(0);
        }
    }

    private String aSky() {
        StringBuilder s = new StringBuilder(aClause());
        for (int n = any(0, 10); n > 0; n--) {
            String more = ";" + aClause();
            if (s.length() + more.length() <= 100) {
                s.append(more);
            }
        }
        return s.length() <= 100 ? s.toString() : "turn 2;cloud 3";
    }

    private String spoilt(String text) {
        StringBuilder s = new StringBuilder(text);
        for (int n = any(0, 2); n > 0 && s.length() > 0; n--) {
            int place = any(0, s.length() - 1);
            char sign = "turncloudearim pkvhnm<=>!(|&);0123456789".charAt(any(0, 39));
            switch (any(0, 3)) {
                case 0: s.setLength(place); break;
                case 1: s.deleteCharAt(place); break;
                case 2: s.insert(place, sign); break;
                default: s.setCharAt(place, sign);
            }
        }
        return s.length() > 100 ? s.substring(0, 100) : s.toString();
    }

    private void step(int which) {
        if (which < 12) {
            change(which);
        } else if (which < 24) {
            ask(which);
        } else {
            askMore(which);
        }
    }

    private void change(int which) {
        int p = aLight();
        int k = about(0, 3);
        int n = about(0, 9);
        boolean is = any(0, 1) == 0;
        switch (which) {
            case 0:
                if (any(0, 5) == 0) {
                    int sign = any(0, 3) == 0 ? any(-2, 129) : any(0, 127);
                    due("feed " + sign, x.feed(sign), y.feed(sign));
                } else if (any(0, 3) == 0) {
                    feed(any(0, 2) == 0 ? spoilt(aSky()) : aSky());
                    due("sky", x.sky(), y.sky());
                }
                break;
            case 1: light(); break;
            case 2: due("row " + p + " " + k + " " + n, x.row(p, k, n), y.row(p, k, n)); break;
            case 3:
                int what = about(0, 1);
                int to = about(0, 30);
                due("set " + p + " " + what + " " + to, x.set(p, what, to), y.set(p, what, to));
                break;
            case 4: due("hide " + p + " " + (is && k > 1), x.hide(p, is && k > 1), y.hide(p, is && k > 1)); break;
            case 5: case 6:
                int nights = any(0, 1) == 0 ? any(0, 5) : about(0, 60);
                due("pass " + nights, x.pass(nights), y.pass(nights));
                break;
            case 7:
                int at = any(0, 3) == 0 ? about(0, 60) : any(0, 12);
                int noted = any(0, 12) == 0 ? -1 : p;
                boolean isUp = any(0, 3) == 0 ? is : upThen(p, at);
                due("note " + noted + " " + at + " " + isUp, x.note(noted, at, isUp), y.note(noted, at, isUp));
                break;
            case 8:
                int row = any(0, 12) == 0 ? -1 : about(0, 2);
                due("plan " + row + " " + p, x.plan(row, p), y.plan(row, p));
                break;
            case 9:
                int when = any(0, 12) == 0 ? -1 : about(0, 60);
                int house = any(0, 2) == 0 ? about(0, 1) : turnThen(when);
                due("book " + when + " " + house, x.book(when, house), y.book(when, house));
                break;
            case 10:
                if (any(0, 2) == 0) {
                    due("image", x.image(), y.image());
                }
                break;
            default:
                if (any(0, 3) == 0) {
                    due("undo", x.undo(), y.undo());
                }
        }
    }

    private boolean upThen(int light, int n) {
        return y.when(light) == n;
    }

    private int turnThen(int n) {
        int turn = y.told(1);
        return n < 0 || n > 60 ? 0 : (y.told(0) + n) / turn % 2;
    }

    private void ask(int which) {
        int p = aLight();
        int q = aLight();
        int house = about(0, 1);
        int n = any(0, 2) == 0 ? about(0, 60) : any(0, 10);
        int what = about(0, 9);
        switch (which) {
            case 12: due("of " + p + " " + what / 2, x.of(p, what / 2), y.of(p, what / 2)); break;
            case 13: due("base " + p + " " + house + " " + n, x.base(p, house, n), y.base(p, house, n)); break;
            case 14: case 15: due("worth " + p + " " + house + " " + n, x.worth(p, house, n), y.worth(p, house, n)); break;
            case 16: case 17: due("told " + what, x.told(what), y.told(what)); break;
            case 18: case 19:
                int seen = about(0, 2);
                due("on " + n + " " + seen, x.on(n, seen), y.on(n, seen));
                break;
            case 20: due("when " + p, x.when(p), y.when(p)); break;
            case 21: due("meet " + p + " " + q, x.meet(p, q), y.meet(p, q)); break;
            case 22:
                int nights = about(1, 9);
                int part = about(0, 2);
                due("deal " + nights + " " + house + " " + part, x.deal(nights, house, part), y.deal(nights, house, part));
                break;
            default: due("shares " + house, x.shares(house), y.shares(house));
        }
    }

    private void askMore(int which) {
        int p = aLight();
        int part = about(0, 1);
        int house = about(0, 1);
        int n = about(0, 60);
        int act = about(0, 2);
        int i = about(0, 6);
        switch (which) {
            case 24: due("rounds " + p + " " + part, x.rounds(p, part), y.rounds(p, part)); break;
            case 25: due("phases " + p + " " + part, x.phases(p, part), y.phases(p, part)); break;
            case 26: due("firm " + p + " " + part, x.firm(p, part), y.firm(p, part)); break;
            case 27: case 28:
                int more = y.on(n, house) - (house == 0 || house == 1 ? y.told(6 + house) : 0);
                int q = any(0, 9) == 0 ? any(-1, 10000) : any(0, 2) == 0 ? any(0, 50) : Math.max(0, more * any(5, 12) / 10);
                due("odds " + house + " " + n + " " + q + " " + part, x.odds(house, n, q, part), y.odds(house, n, q, part));
                break;
            case 29: due("mean " + house + " " + part, x.mean(house, part), y.mean(house, part)); break;
            case 30: due("done " + house, x.done(house), y.done(house)); break;
            case 31: due("looked", x.looked(), y.looked()); break;
            case 32:
                int arg = any(0, 1) == 0 ? any(-20, 20) : next();
                due("act " + p + " " + act + " " + arg, x.act(p, act, arg), y.act(p, act, arg));
                break;
            case 33: due("trace " + i, x.trace(i), y.trace(i)); break;
            case 34: due("as " + p + " " + i, x.as(p, i), y.as(p, i)); break;
            default: due("count " + i, x.count(i), y.count(i));
        }
    }
}
