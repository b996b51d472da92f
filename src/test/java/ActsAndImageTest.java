/** Promises 28 to 33. */
public final class ActsAndImageTest {
    public static void main(String[] args) {
        promise28();
        promise28Wraps();
        promise29();
        promise30();
        promise31();
        promise32();
        promise32All();
        promise33();
        Check.end("ActsAndImageTest");
    }

    private static void due(String what, long got, long want) {
        Check.due(what, got, want);
    }

    /** Lights 0 .. 5 of kinds 1 .. 6, with v 4 .. 9. */
    private static StarCustody sixKinds() {
        StarCustody x = new StarCustody();
        for (int kind = 1; kind <= 6; kind++) {
            x.light(kind, kind + 3, 1, 0);
        }
        return x;
    }

    private static void acts(StarCustody x, int light, int act, int arg, int answer, int... bodies) {
        String what = "act(" + light + ", " + act + ", " + arg + ")";
        due("28: " + what, x.act(light, act, arg), answer);
        due("29: bodies of " + what, x.count(6), bodies.length);
        for (int i = 0; i < bodies.length; i++) {
            due("29: body " + i + " of " + what, x.trace(i), bodies[i]);
        }
        due("29: behind those of " + what, x.trace(bodies.length), -1);
    }

    private static void promise28() {
        StarCustody x = sixKinds();
        acts(x, 0, 0, 5, 15, 11, 1);
        acts(x, 0, 1, 5, 11, 2, 11, 1);
        acts(x, 0, 2, 5, 22, 3, 2, 11, 1);
        acts(x, 1, 0, 5, 6, 1);
        acts(x, 1, 1, 5, -1, 21, 2, 1);
        acts(x, 1, 2, 5, -2, 3, 21, 2, 1);
        acts(x, 2, 0, 5, 7, 1);
        acts(x, 2, 1, 5, 1, 2, 1);
        acts(x, 2, 2, 5, 5, 31, 3, 2, 1);
        acts(x, 3, 0, 5, 18, 11, 1);
        acts(x, 3, 1, 5, 11, 2, 11, 1);
        acts(x, 3, 2, 5, 25, 41, 3, 2, 11, 1, 11, 1);
        acts(x, 4, 0, 5, 13, 51, 1);
        acts(x, 4, 0, 1, 1, 51, 1);
        acts(x, 4, 1, 5, -5, 21, 2, 51, 1);
        acts(x, 4, 2, 5, -10, 3, 21, 2, 51, 1);
        acts(x, 5, 0, 5, 10, 1);
        acts(x, 5, 1, 5, 10, 61, 2, 1);
        acts(x, 5, 2, 5, 19, 31, 3, 61, 2, 1);
        StarCustody y = new StarCustody();
        y.light(0, 2, 1, 0);
        acts(y, 0, 0, -5, -5, 1);
        acts(y, 0, 1, -5, -7, 2, 1);
        acts(y, 0, 2, -5, -14, 3, 2, 1);
        acts(x, 0, 0, 5, 15, 11, 1);
        acts(x, 6, 0, 5, 0);
        acts(x, 0, 0, 5, 15, 11, 1);
        acts(x, -1, 0, 5, 0);
        acts(x, 0, 0, 5, 15, 11, 1);
        acts(x, 0, 3, 5, 0);
        acts(x, 0, 0, 5, 15, 11, 1);
        acts(x, 0, -1, 5, 0);
        x.hide(0, true);
        acts(x, 0, 0, 5, 15, 11, 1);
    }

    private static void promise28Wraps() {
        StarCustody x = sixKinds();
        due("28: times 3", x.act(0, 0, 1 << 30), 3 << 30);
        due("28: a sum", x.act(1, 0, Integer.MAX_VALUE), Integer.MIN_VALUE);
        due("28: negated", x.act(1, 1, Integer.MIN_VALUE + 4), Integer.MIN_VALUE);
        due("28: x - 1", x.act(3, 2, Integer.MIN_VALUE), (Integer.MAX_VALUE * 3 + 3 - 7) * 2 + 9);
        due("28: times 2", x.act(2, 2, Integer.MAX_VALUE), (Integer.MAX_VALUE + 2 - 6) * 2 ^ 7);
    }

    private static void promise29() {
        StarCustody x = sixKinds();
        due("29: none yet", x.trace(0), -1);
        x.act(3, 2, 0);
        due("29: last", x.trace(6), 1);
        due("29: -1", x.trace(-1), -1);
        due("29: 7", x.trace(7), -1);
        due("29: 20", x.trace(20), -1);
        x.act(1, 0, 0);
        due("29: the latest alone", x.trace(1), -1);
    }

    private static void promise30() {
        StarCustody x = sixKinds();
        for (int light = 0; light < 6; light++) {
            for (int k = 0; k <= 6; k++) {
                int kind = light + 1;
                boolean is = k == 0 || k == kind || kind == 4 && k == 1 || kind == 5 && k == 2 || kind == 6 && k == 3;
                due("30: light " + light + " as " + k, x.as(light, k), is ? light + 4 : -6);
            }
        }
        StarCustody y = new StarCustody();
        y.light(0, 3, 1, 0);
        due("30: a star", y.as(0, 0), 3);
        due("30: a star is no moon", y.as(0, 1), -6);
        due("30: light 1", y.as(1, 0), -1);
        due("30: light -1", y.as(-1, 7), -1);
        due("30: k 7", y.as(0, 7), -1);
        due("30: k -1", y.as(0, -1), -1);
    }

    private static void promise31() {
        StarCustody x = new StarCustody();
        due("31: no lights", x.image(), 0);
        x.light(0, 0, 5, 0);
        due("32: back to none", x.undo(), 0);
        due("32: none", x.count(0), 0);
        x.light(0, 0, 5, 0);
        x.light(0, 0, 5, 0);
        due("31: two", x.image(), 2);
        x.light(0, 0, 5, 0);
        due("32: the newer image", x.undo(), 2);
        due("32: once more", x.undo(), 2);
    }

    private static void promise32() {
        StarCustody x = new StarCustody();
        due("32: none yet", x.undo(), -3);
        x.light(6, 2, 5, 0);
        x.row(0, 1, 3);
        x.image();
        x.row(0, 1, 8);
        x.light(6, 2, 5, 0);
        for (int k = 0; k < 4; k++) {
            x.row(1, k, 7);
        }
        x.hide(1, true);
        due("32: undone", x.undo(), 1);
        due("32: a new one", x.light(6, 9, 5, 0), 1);
        for (int k = 0; k < 4; k++) {
            due("32: has its own row, at " + k, x.row(1, k, 0), 0);
        }
        due("32: is not hidden", x.of(1, 4), 0);
        due("32: the row is as it was", x.row(0, 1, 0), 3);
        x.act(0, 1, 4);
        x.undo();
        due("32: the trace stays", x.count(6) * 100 + x.trace(0), 361);
    }

    private static void promise32All() {
        StarCustody x = Check.under("turn 2;cloud 3;dear 1 p=0");
        x.light(0, 0, 5, 1);
        x.light(0, 0, 4, 3);
        x.hide(1, true);
        x.pass(5);
        x.note(0, 3, true);
        x.plan(0, 0);
        x.plan(0, 0);
        x.book(1, 1);
        Check.feed(x, "cloud ");
        x.image();
        long[] was = all(x);
        x.feed('9');
        due("32: another sky", x.sky(), 1);
        x.feed('t');
        x.set(0, 0, 7);
        x.set(0, 1, 8);
        x.hide(0, true);
        x.hide(1, false);
        x.pass(7);
        x.note(-1, 0, true);
        x.note(1, 2, false);
        x.note(1, 3, true);
        x.plan(-1, 0);
        x.plan(1, 0);
        x.book(-1, 0);
        x.book(4, 0);
        x.undo();
        long[] is = all(x);
        for (int i = 0; i < was.length; i++) {
            due("32: number " + i, is[i], was[i]);
        }
        x.feed('8');
        due("32: the tape is as it was", x.sky(), 1);
        due("32: the tape's cloud", x.told(2), 8);
    }

    private static long[] all(StarCustody x) {
        return new long[] {
            x.told(0), x.told(1), x.told(2), x.told(5), x.told(6), x.told(7), x.of(0, 2), x.of(0, 3), x.of(0, 4), x.of(1, 4),
            x.count(0), x.count(1), x.count(2), x.count(3), x.count(4), x.count(5), x.rounds(0, 0), x.rounds(1, 0), x.done(0),
            x.done(1), x.looked(), x.base(0, 0, 0), x.base(1, 0, 0), x.mean(0, 0)
        };
    }

    private static void promise33() {
        StarCustody x = new StarCustody();
        x.light(0, 0, 1, 0);
        x.light(4, 0, 1, 0);
        for (int i = 0; i < 3; i++) {
            Check.sky(x, "turn 1");
        }
        for (int i = 0; i < 4; i++) {
            x.note(0, 0, true);
        }
        for (int i = 0; i < 5; i++) {
            x.plan(0, 0);
        }
        for (int i = 0; i < 6; i++) {
            x.book(0, 0);
        }
        Check.feed(x, "turn 11");
        due("33: lights", x.count(0), 2);
        due("33: skies", x.count(1), 3);
        due("33: noted", x.count(2), 4);
        due("33: plan", x.count(3), 5);
        due("33: book", x.count(4), 6);
        due("33: tape", x.count(5), 7);
        due("33: no act yet", x.count(6), 0);
        x.act(1, 2, 0);
        due("33: bodies", x.count(6), 7);
        x.act(2, 0, 0);
        due("33: no trace then", x.count(6), 0);
        due("33: -1", x.count(-1), -1);
        due("33: 7", x.count(7), -1);
    }
}
