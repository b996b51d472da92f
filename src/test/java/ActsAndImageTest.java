/** Promises 28 to 33: acts and their trace, kinds, the image, counts. */
public final class ActsAndImageTest {
    public static void main(String[] args) throws IllegalAccessException {
        Check.run(ActsAndImageTest.class);
    }

    private static void due(String what, long got, long want) {
        Check.due(what, got, want);
    }

    /** Lights 0 .. 5 of kinds 1 .. 6, with v 4 .. 9. */
    private static StarCustody sixKinds() {
        StarCustody x = new StarCustody();
        for (int kind = 1; kind <= 6; kind++) {
            x.light(kind, kind + 3, 1, 0);
        }
        return x;
    }

    private static void acts(StarCustody x, int light, int act, int arg, int answer, int... bodies) {
        String what = "act(" + light + ", " + act + ", " + arg + ")";
        due(what, x.act(light, act, arg), answer);
        due("bodies of " + what, x.count(6), bodies.length);
        for (int i = 0; i < bodies.length; i++) {
            due("body " + i + " of " + what, x.trace(i), bodies[i]);
        }
        due("behind those of " + what, x.trace(bodies.length), -1);
    }

    // ---- 28

    static void p28ABodyOfAStar() {
        StarCustody x = Check.with(0, 2, 1, 0);
        acts(x, 0, 0, -5, -5, 1);
        acts(x, 0, 1, -5, -7, 2, 1);
        acts(x, 0, 2, -5, -14, 3, 2, 1);
    }

    static void p28BodiesOfAMoon() {
        StarCustody x = sixKinds();
        acts(x, 0, 0, 5, 15, 11, 1);
        acts(x, 0, 1, 5, 11, 2, 11, 1);
        acts(x, 0, 2, 5, 22, 3, 2, 11, 1);
    }

    static void p28BodiesOfAComet() {
        StarCustody x = sixKinds();
        acts(x, 1, 0, 5, 6, 1);
        acts(x, 1, 1, 5, -1, 21, 2, 1);
        acts(x, 1, 2, 5, -2, 3, 21, 2, 1);
    }

    static void p28BodiesOfANebula() {
        StarCustody x = sixKinds();
        acts(x, 2, 0, 5, 7, 1);
        acts(x, 2, 1, 5, 1, 2, 1);
        acts(x, 2, 2, 5, 5, 31, 3, 2, 1);
    }

    static void p28BodiesOfATwin() {
        StarCustody x = sixKinds();
        acts(x, 3, 0, 5, 18, 11, 1);
        acts(x, 3, 1, 5, 11, 2, 11, 1);
        acts(x, 3, 2, 5, 25, 41, 3, 2, 11, 1, 11, 1);
    }

    static void p28BodiesOfAGuest() {
        StarCustody x = sixKinds();
        acts(x, 4, 0, 5, 13, 51, 1);
        acts(x, 4, 0, 1, 1, 51, 1);
        acts(x, 4, 1, 5, -5, 21, 2, 51, 1);
        acts(x, 4, 2, 5, -10, 3, 21, 2, 51, 1);
    }

    static void p28BodiesOfAToldOne() {
        StarCustody x = sixKinds();
        acts(x, 5, 0, 5, 10, 1);
        acts(x, 5, 1, 5, 10, 61, 2, 1);
        acts(x, 5, 2, 5, 19, 31, 3, 61, 2, 1);
    }

    static void p28NoSuchLightIs0AndNoTraceThen() {
        StarCustody x = sixKinds();
        for (int light : Check.beyond(0, 5)) {
            acts(x, 0, 0, 5, 15, 11, 1);
            acts(x, light, 0, 5, 0);
        }
        acts(new StarCustody(), 0, 0, 5, 0);
    }

    static void p28NoSuchActIs0AndNoTraceThen() {
        StarCustody x = sixKinds();
        for (int act : Check.beyond(0, 2)) {
            acts(x, 0, 0, 5, 15, 11, 1);
            acts(x, 0, act, 5, 0);
        }
    }

    static void p28ASumWraps() {
        StarCustody x = sixKinds();
        due("behind the greatest int", x.act(1, 0, Integer.MAX_VALUE), Integer.MIN_VALUE);
        due("two behind it", x.act(2, 0, Integer.MAX_VALUE), Integer.MIN_VALUE + 1);
        due("claims of a told one", x.act(5, 1, Integer.MAX_VALUE), Integer.MIN_VALUE + 4);
    }

    static void p28ADifferenceWraps() {
        StarCustody x = Check.with(0, 2, 1, 0);
        due("less v", x.act(0, 1, Integer.MIN_VALUE), Integer.MAX_VALUE - 1);
        StarCustody y = Check.with(4, 0, 1, 0);
        due("x less 1", y.act(0, 2, Integer.MIN_VALUE), Integer.MAX_VALUE * 3 * 2 + 6);
    }

    static void p28TwiceAndThriceWrap() {
        StarCustody x = sixKinds();
        due("times 3", x.act(0, 0, 1 << 30), -(1 << 30));
        due("times 2", Check.with(0, 0, 1, 0).act(0, 2, 1 << 30), Integer.MIN_VALUE);
        due("times 2 of the greatest int", Check.with(0, 0, 1, 0).act(0, 2, Integer.MAX_VALUE), -2);
        due("times 2, and 7", x.act(2, 2, Integer.MAX_VALUE), -10 ^ 7);
    }

    static void p28TheLeastIntNegatedIsItself() {
        StarCustody x = Check.with(2, 0, 1, 0);
        due("least", x.act(0, 1, Integer.MIN_VALUE), Integer.MIN_VALUE);
        due("least but one", x.act(0, 1, Integer.MIN_VALUE + 1), Integer.MAX_VALUE);
    }

    static void p28GuestsAndNebulaeOfNegativeNumbers() {
        StarCustody x = sixKinds();
        due("guest", x.act(4, 0, -5), -1 ^ 4);
        due("nebula", x.act(2, 2, -5), -18 ^ 7);
        due("nebula of 0", Check.with(3, 0, 1, 0).act(0, 2, 0), 7);
    }

    static void p28AHiddenOneActs() {
        StarCustody x = sixKinds();
        x.hide(0, true);
        acts(x, 0, 0, 5, 15, 11, 1);
    }

    // ---- 29

    static void p29WithoutAnActIsNone() {
        StarCustody x = sixKinds();
        due("0", x.trace(0), -1);
    }

    static void p29TheLongestHas7() {
        StarCustody x = sixKinds();
        x.act(3, 2, 0);
        due("the first", x.trace(0), 41);
        due("the last", x.trace(6), 1);
        due("behind it", x.trace(7), -1);
        int most = 0;
        for (int light = 0; light < 6; light++) {
            for (int act = 0; act <= 2; act++) {
                x.act(light, act, 0);
                most = Math.max(most, x.count(6));
            }
        }
        due("none has more, far below the 20 that are kept", most, 7);
    }

    static void p29OutsideOfTheBodiesIsNone() {
        StarCustody x = sixKinds();
        x.act(3, 2, 0);
        for (int i : Check.beyond(0, 6)) {
            due("" + i, x.trace(i), -1);
        }
        due("19", x.trace(19), -1);
        due("20", x.trace(20), -1);
    }

    static void p29TheLatestAlone() {
        StarCustody x = sixKinds();
        x.act(3, 2, 0);
        x.act(1, 0, 0);
        due("its one", x.trace(0), 1);
        due("none of the one ahead", x.trace(1), -1);
        x.act(9, 0, 0);
        due("none of a refused one", x.trace(0), -1);
    }

    // ---- 30

    static void p30EachKindAsEach() {
        StarCustody x = sixKinds();
        for (int light = 0; light < 6; light++) {
            for (int k = 0; k <= 6; k++) {
                int kind = light + 1;
                boolean is = k == 0 || k == kind || kind == 4 && k == 1 || kind == 5 && k == 2 || kind == 6 && k == 3;
                due("light " + light + " as " + k, x.as(light, k), is ? light + 4 : -6);
            }
        }
    }

    static void p30AStarIsNoOtherKind() {
        StarCustody x = Check.with(0, 3, 1, 0);
        due("a star", x.as(0, 0), 3);
        for (int k = 1; k <= 6; k++) {
            due("kind " + k, x.as(0, k), -6);
        }
    }

    static void p30V0And9() {
        due("0", Check.with(6, 0, 1, 0).as(0, 3), 0);
        due("9", Check.with(6, 9, 1, 0).as(0, 3), 9);
    }

    static void p30NoSuchLightIsNone() {
        StarCustody x = sixKinds();
        for (int light : Check.beyond(0, 5)) {
            due("light " + light, x.as(light, 0), -1);
            due("light and k " + light, x.as(light, 7), -1);
        }
        due("a light that has not come", Check.with(0, 0, 1, 0).as(1, 0), -1);
    }

    static void p30KOutside0To6IsNone() {
        StarCustody x = sixKinds();
        for (int k : Check.beyond(0, 6)) {
            due("k " + k, x.as(0, k), -1);
        }
    }

    // ---- 31

    static void p31AnImageOfNothing() {
        StarCustody x = new StarCustody();
        due("no lights", x.image(), 0);
        x.light(0, 0, 5, 0);
        due("undo", x.undo(), 0);
        due("none", x.count(0), 0);
    }

    static void p31AnImageOfSix() {
        due("six", sixKinds().image(), 6);
    }

    static void p31TheNewerTakesTheOldersPlace() {
        StarCustody x = new StarCustody();
        due("first", x.image(), 0);
        x.light(0, 0, 5, 0);
        x.light(0, 0, 5, 0);
        due("second", x.image(), 2);
        x.light(0, 0, 5, 0);
        due("back to the second", x.undo(), 2);
        due("and again", x.undo(), 2);
    }

    static void p31TakingItChangesNothing() {
        StarCustody x = sixKinds();
        x.pass(5);
        x.act(3, 2, 0);
        long[] was = all(x);
        x.image();
        same(all(x), was);
        due("trace", x.trace(0), 41);
    }

    // ---- 32

    static void p32WithoutAnImageIsState() {
        StarCustody x = sixKinds();
        x.pass(5);
        due("state", x.undo(), -3);
        due("lights stay", x.count(0), 6);
        due("night stays", x.told(0), 5);
        due("state again", x.undo(), -3);
    }

    static void p32TheImageStaysByAnUndo() {
        StarCustody x = sixKinds();
        x.image();
        for (int i = 0; i < 3; i++) {
            x.pass(5);
            due("undo", x.undo(), 6);
            due("night", x.told(0), 0);
        }
    }

    static void p32WhatComesBehindAnUndoIsNew() {
        StarCustody x = new StarCustody();
        x.light(6, 2, 5, 0);
        x.row(0, 1, 3);
        x.image();
        x.row(0, 1, 8);
        x.light(6, 2, 5, 0);
        for (int k = 0; k < 4; k++) {
            x.row(1, k, 7);
        }
        x.hide(1, true);
        due("undo", x.undo(), 1);
        due("the light is gone", x.of(1, 0), -1);
        due("a new one", x.light(3, 9, 7, 4), 1);
        due("kind", x.of(1, 0), 3);
        due("v", x.of(1, 1), 9);
        due("round", x.of(1, 2), 7);
        due("phase", x.of(1, 3), 4);
        due("is not hidden", x.of(1, 4), 0);
        due("the row is as it was", x.row(0, 1, 0), 3);
    }

    static void p32ANewToldOnesRowIs0BehindAnUndo() {
        StarCustody x = new StarCustody();
        x.image();
        x.light(6, 2, 5, 0);
        for (int k = 0; k < 4; k++) {
            x.row(0, k, 7);
        }
        x.undo();
        x.light(6, 2, 5, 0);
        for (int k = 0; k < 4; k++) {
            due("row at " + k, x.row(0, k, 0), 0);
        }
    }

    static void p32TheTraceStays() {
        StarCustody x = Check.with(6, 2, 5, 0);
        x.act(0, 0, 4);
        x.image();
        x.act(0, 1, 4);
        x.undo();
        due("bodies", x.count(6), 3);
        due("the first", x.trace(0), 61);
    }

    static void p32WhatWasFullHasRoomAgain() {
        StarCustody x = Check.with(0, 0, 1, 0);
        x.image();
        for (int i = 0; i < 100; i++) {
            x.light(0, 0, 1, 0);
            x.note(0, 0, true);
            x.plan(0, 0);
            x.book(0, 0);
        }
        for (int i = 0; i < 5; i++) {
            due("sky " + i, Check.sky(x, "turn 2"), i);
        }
        x.undo();
        due("light", x.light(0, 0, 1, 0), 1);
        due("note", x.note(0, 0, true), 1);
        due("plan", x.plan(0, 0), 1);
        due("book", x.book(0, 0), 1);
        due("turn", x.told(1), 1);
        due("sky", Check.sky(x, "turn 3"), 0);
    }

    static void p32WhatWasFullIsFullAgain() {
        StarCustody x = sixKinds();
        for (int i = 0; i < 8; i++) {
            x.note(0, 0, true);
            x.plan(0, 0);
            x.book(0, 0);
        }
        for (int i = 0; i < 5; i++) {
            due("sky " + i, Check.sky(x, "turn 2"), i);
        }
        for (int i = 0; i < 100; i++) {
            x.feed('t');
        }
        x.image();
        x.note(-1, 0, true);
        x.plan(-1, 0);
        x.book(-1, 0);
        x.undo();
        due("light", x.light(0, 0, 1, 0), -4);
        due("note", x.note(0, 0, true), -4);
        due("plan", x.plan(0, 0), -4);
        due("book", x.book(0, 0), -4);
        due("feed", x.feed('t'), -4);
        due("sky", x.sky(), -4);
    }

    static void p32AllIsAsItWas() {
        StarCustody x = Check.under("turn 2;cloud 3;dear 1 p=0");
        x.light(0, 0, 5, 1);
        x.light(0, 0, 4, 3);
        x.hide(1, true);
        x.pass(5);
        x.note(0, 3, true);
        x.plan(0, 0);
        x.plan(0, 0);
        x.book(1, 1);
        Check.feed(x, "cloud ");
        x.image();
        long[] was = all(x);
        x.feed('9');
        due("another sky", x.sky(), 1);
        x.feed('t');
        x.set(0, 0, 7);
        x.set(0, 1, 8);
        x.hide(0, true);
        x.hide(1, false);
        x.pass(7);
        x.note(-1, 0, true);
        x.note(1, 2, false);
        x.note(1, 3, true);
        x.plan(-1, 0);
        x.plan(1, 0);
        x.book(-1, 0);
        x.book(4, 0);
        x.undo();
        same(all(x), was);
        x.feed('8');
        due("the tape is as it was", x.sky(), 1);
        due("the tape's cloud", x.told(2), 8);
    }

    private static void same(long[] is, long[] was) {
        for (int i = 0; i < was.length; i++) {
            due("number " + i, is[i], was[i]);
        }
    }

    private static long[] all(StarCustody x) {
        return new long[] {
            x.told(0), x.told(1), x.told(2), x.told(5), x.told(6), x.told(7), x.of(0, 2), x.of(0, 3), x.of(0, 4), x.of(1, 4),
            x.count(0), x.count(1), x.count(2), x.count(3), x.count(4), x.count(5), x.rounds(0, 0), x.rounds(1, 0), x.done(0),
            x.done(1), x.looked(), x.base(0, 0, 0), x.base(1, 0, 0), x.mean(0, 0)
        };
    }

    // ---- 33

    static void p33EachCount() {
        StarCustody x = new StarCustody();
        x.light(0, 0, 1, 0);
        x.light(4, 0, 1, 0);
        for (int i = 0; i < 3; i++) {
            Check.sky(x, "turn 1");
        }
        for (int i = 0; i < 4; i++) {
            x.note(0, 0, true);
        }
        for (int i = 0; i < 5; i++) {
            x.plan(0, 0);
        }
        for (int i = 0; i < 6; i++) {
            x.book(0, 0);
        }
        Check.feed(x, "turn 11");
        x.act(1, 0, 0);
        int[] wants = {2, 3, 4, 5, 6, 7, 2};
        for (int what = 0; what < wants.length; what++) {
            due("what " + what, x.count(what), wants[what]);
        }
    }

    static void p33WhatOutside0To6IsNone() {
        StarCustody x = sixKinds();
        for (int what : Check.beyond(0, 6)) {
            due("what " + what, x.count(what), -1);
        }
    }

    static void p33EachIsFullAtItsMost() {
        StarCustody x = sixKinds();
        for (int i = 0; i < 5; i++) {
            Check.sky(x, "turn 1");
        }
        for (int i = 0; i < 9; i++) {
            x.note(0, 0, true);
            x.plan(0, 0);
            x.book(0, 0);
        }
        for (int i = 0; i < 101; i++) {
            x.feed(0);
        }
        x.light(0, 0, 1, 0);
        x.sky();
        int[] wants = {6, 5, 6, 8, 8, 100, 0};
        for (int what = 0; what < wants.length; what++) {
            due("what " + what, x.count(what), wants[what]);
        }
    }

    static void p33BodiesOfTheLatestActAlone() {
        StarCustody x = sixKinds();
        due("no act yet", x.count(6), 0);
        x.act(3, 2, 0);
        due("seven", x.count(6), 7);
        x.act(1, 0, 0);
        due("one", x.count(6), 1);
        x.act(1, 3, 0);
        due("none of a refused one", x.count(6), 0);
    }
}
