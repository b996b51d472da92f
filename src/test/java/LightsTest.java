/** Promises 4 to 10: lights, when they are up, what they are worth, what becomes of them. */
public final class LightsTest {
    private static final int NO_BASE = -9999999;

    public static void main(String[] args) throws IllegalAccessException {
        Check.run(LightsTest.class);
    }

    private static void due(String what, long got, long want) {
        Check.due(what, got, want);
    }

    // ---- 4

    static void p04ALightIsNumberedFrom0On() {
        StarCustody x = new StarCustody();
        for (int i = 0; i < 6; i++) {
            due("light " + i, x.light(i, i, i + 1, i), i);
        }
        due("six", x.count(0), 6);
    }

    static void p04KindsOutside0To6AreNone() {
        StarCustody x = new StarCustody();
        for (int kind : Check.beyond(0, 6)) {
            due("kind " + kind, x.light(kind, 0, 1, 0), -1);
        }
    }

    static void p04EachKind0To6Comes() {
        for (int kind = 0; kind <= 6; kind++) {
            due("kind", Check.with(kind, 0, 1, 0).of(0, 0), kind);
        }
    }

    static void p04VOutside0To9IsBad() {
        StarCustody x = new StarCustody();
        for (int v : Check.beyond(0, 9)) {
            due("v " + v, x.light(0, v, 1, 0), -2);
        }
    }

    static void p04RoundOutside1To30IsBad() {
        StarCustody x = new StarCustody();
        for (int round : Check.beyond(1, 30)) {
            due("round " + round, x.light(0, 0, round, 0), -2);
        }
    }

    static void p04PhaseOutside0To29IsBad() {
        StarCustody x = new StarCustody();
        for (int phase : Check.beyond(0, 29)) {
            due("phase " + phase, x.light(0, 0, 1, phase), -2);
        }
    }

    static void p04TheLeastAndTheGreatestAreTaken() {
        StarCustody x = new StarCustody();
        due("least", x.light(0, 0, 1, 0), 0);
        due("greatest", x.light(6, 9, 30, 29), 1);
        due("kind", x.of(1, 0), 6);
        due("v", x.of(1, 1), 9);
        due("round", x.of(1, 2), 30);
        due("phase", x.of(1, 3), 29);
    }

    static void p04ASeventhIsFull() {
        StarCustody x = sixOfKind(0);
        due("seventh", x.light(0, 0, 1, 0), -4);
        due("six", x.count(0), 6);
        due("there is no light 6", x.of(6, 0), -1);
    }

    static void p04NoneIsAheadOfBadAndFull() {
        StarCustody x = new StarCustody();
        due("kind and v", x.light(7, 10, 0, 30), -1);
        due("kind and full", sixOfKind(0).light(-1, 0, 1, 0), -1);
    }

    static void p04BadIsAheadOfFull() {
        StarCustody x = sixOfKind(0);
        due("v", x.light(0, 10, 1, 0), -2);
        due("round", x.light(0, 0, 0, 0), -2);
        due("phase", x.light(0, 0, 1, 30), -2);
    }

    static void p04ARefusedLightTakesNoNumber() {
        StarCustody x = new StarCustody();
        x.light(7, 0, 1, 0);
        x.light(0, 0, 31, 0);
        due("none", x.count(0), 0);
        due("the first that comes", x.light(0, 0, 1, 0), 0);
    }

    private static StarCustody sixOfKind(int kind) {
        StarCustody x = new StarCustody();
        for (int i = 0; i < 6; i++) {
            due("light", x.light(kind, 0, 1, 0), i);
        }
        return x;
    }

    // ---- 5

    static void p05EachWhatOfEachLight() {
        StarCustody x = new StarCustody();
        for (int kind = 1; kind <= 6; kind++) {
            x.light(kind, kind + 2, kind + 10, kind + 20);
        }
        for (int i = 0; i < 6; i++) {
            due("kind of " + i, x.of(i, 0), i + 1);
            due("v of " + i, x.of(i, 1), i + 3);
            due("round of " + i, x.of(i, 2), i + 11);
            due("phase of " + i, x.of(i, 3), i + 21);
        }
    }

    static void p05NoSuchLightIsNone() {
        StarCustody x = sixOfKind(0);
        for (int light : Check.beyond(0, 5)) {
            due("light " + light, x.of(light, 0), -1);
        }
        due("a light that has not come", Check.with(0, 0, 1, 0).of(1, 0), -1);
    }

    static void p05WhatOutside0To5IsNone() {
        StarCustody x = Check.with(0, 0, 1, 0);
        for (int what : Check.beyond(0, 5)) {
            due("what " + what, x.of(0, what), -1);
        }
    }

    static void p05NotHiddenAtFirst() {
        StarCustody x = sixOfKind(1);
        for (int i = 0; i < 6; i++) {
            due("light " + i, x.of(i, 4), 0);
        }
    }

    static void p05OneHiddenIsTheOnlyOne() {
        StarCustody x = sixOfKind(1);
        x.hide(3, true);
        for (int i = 0; i < 6; i++) {
            due("light " + i, x.of(i, 4), i == 3 ? 1 : 0);
            due("light " + i + " is up", x.of(i, 5), i == 3 ? 0 : 1);
        }
    }

    private static void up(int kind, int v, int round, int phase, String nights) {
        StarCustody x = Check.with(kind, v, round, phase);
        for (int night = 0; night < nights.length(); night++) {
            due("kind " + kind + ", v " + v + ", round " + round + ", phase " + phase + " on night " + night, x.of(0, 5),
                nights.charAt(night) - '0');
            x.pass(1);
        }
    }

    static void p05AStarIsUpOnMultiplesOfItsRound() {
        up(0, 3, 5, 2, "000100001000010");
        up(0, 0, 4, 1, "000100010001");
    }

    static void p05AStarIsUpOnNight0WithPhase0() {
        up(0, 9, 5, 0, "100001000010");
    }

    static void p05AStarOfRound1IsUpAlways() {
        up(0, 9, 1, 0, "1111");
        up(0, 9, 1, 29, "1111");
    }

    static void p05APhaseOfARoundOrMoreGoesRound() {
        up(0, 0, 5, 5, "100001");
        up(0, 0, 5, 7, "000100");
        up(0, 0, 30, 29, "010000");
        up(1, 0, 4, 29, "100110");
    }

    static void p05AMoonIsUpForHalfOfItsRound() {
        up(1, 3, 4, 0, "110011001100");
        up(1, 3, 10, 0, "111110000011");
        up(1, 3, 10, 4, "100000111110");
    }

    static void p05HalfOfAMoonsRoundIsCut() {
        up(1, 3, 5, 2, "000110001100011");
        up(1, 3, 3, 0, "100100");
        up(1, 3, 7, 0, "1110000111");
    }

    static void p05AMoonOfRound1IsUpAlways() {
        up(1, 3, 1, 0, "111");
        up(1, 3, 1, 29, "111");
    }

    static void p05AMoonOfRound2IsUpEachOtherNight() {
        up(1, 3, 2, 0, "101010");
        up(1, 3, 2, 1, "010101");
    }

    static void p05ACometIsUpFromNight10TimesVOn() {
        up(2, 1, 1, 0, "000000000011");
        up(2, 1, 10, 0, "0000000000100000000010");
        up(2, 1, 3, 1, "000000000001001001");
        up(2, 2, 19, 0, "00000000000000000000000000000000000000100");
    }

    static void p05ACometOfV0IsUpFromNight0On() {
        up(2, 0, 3, 0, "1001001");
        up(2, 0, 3, 1, "001001001");
    }

    static void p05ACometOfV9IsUpFromNight90On() {
        StarCustody x = Check.with(2, 9, 1, 0);
        Check.pass(x, 89);
        due("night 89", x.of(0, 5), 0);
        x.pass(1);
        due("night 90", x.of(0, 5), 1);
    }

    static void p05ANebulaIsUpAsAStar() {
        up(3, 3, 4, 1, "000100010001");
        up(3, 9, 1, 0, "111");
        up(3, 9, 5, 0, "100001");
    }

    static void p05ATwinIsUpAsAMoon() {
        up(4, 3, 5, 2, "000110001100011");
        up(4, 3, 1, 4, "111");
        up(4, 3, 2, 1, "010101");
        up(4, 3, 3, 0, "100100");
    }

    static void p05AGuestIsUpOnNoMultipleOf7() {
        up(5, 0, 1, 0, "0111111011111101111110");
        up(5, 0, 7, 0, "000000000000000");
        up(5, 0, 7, 1, "000000100000010");
    }

    static void p05AGuestIsUpAsACometElse() {
        up(5, 1, 2, 1, "0000000000010101010100");
        up(5, 1, 10, 0, "0000000000100000000010000000001");
    }

    static void p05AToldOneIsUpAsAStar() {
        up(6, 9, 4, 1, "000100010001");
        up(6, 3, 1, 0, "111");
        up(6, 9, 5, 0, "100001");
    }

    static void p05AHiddenOneIsNeverUp() {
        for (int kind = 0; kind <= 6; kind++) {
            StarCustody x = Check.with(kind, 0, 1, 0);
            x.hide(0, true);
            x.pass(1);
            due("kind " + kind, x.of(0, 5), 0);
        }
    }

    static void p05CloudsHideNoLight() {
        StarCustody x = Check.under("cloud 1");
        x.light(0, 0, 1, 0);
        due("up", x.of(0, 5), 1);
    }

    // ---- 6

    static void p06NoSuchLightIsNone() {
        StarCustody x = sixOfKind(0);
        for (int light : Check.beyond(0, 5)) {
            due("light " + light, x.base(light, 0, 0), NO_BASE);
        }
        due("none has come", new StarCustody().base(0, 0, 0), NO_BASE);
    }

    static void p06HousesOutside0And1AreNone() {
        StarCustody x = sixOfKind(0);
        for (int house : Check.beyond(0, 1)) {
            due("house " + house, x.base(0, house, 0), NO_BASE);
        }
    }

    static void p06NightsOutside0To60AreToldAsNone() {
        StarCustody x = sixOfKind(0);
        for (int n : Check.beyond(0, 60)) {
            due("n " + n, x.base(0, 0, n), NO_BASE);
        }
    }

    static void p06Nights0And60AreTaken() {
        StarCustody x = Check.under("dear 3 n=0;dear 4 m=4;dear 5 m=0");
        x.light(0, 0, 1, 0);
        due("n 0", x.base(0, 1, 0), 3 + 5);
        due("n 60", x.base(0, 1, 60), 3 + 4);
    }

    static void p06NIsFromNowOn() {
        StarCustody x = Check.under("dear 9 p=0;dim 4 n>4");
        x.light(0, 1, 2, 3);
        due("n 5", x.base(0, 0, 5), 5);
        x.pass(3);
        due("n 1, night 4", x.base(0, 0, 1), 9);
        due("n 2, night 5", x.base(0, 0, 2), 5);
    }

    static void p06BeyondNight9999() {
        StarCustody x = Check.under("dear 3 n=9;dear 4 m=0");
        x.light(0, 0, 1, 0);
        Check.pass(x, 9999);
        due("night 9999", x.base(0, 0, 0), 3);
        due("night 10059", x.base(0, 0, 60), 7);
    }

    static void p06WithoutASkyItIs0() {
        StarCustody x = Check.with(5, 9, 1, 0);
        due("house 0", x.base(0, 0, 0), 0);
        due("house 1", x.base(0, 1, 60), 0);
    }

    static void p06ItMayBeBelow0() {
        StarCustody x = Check.under("dear 1 p=0;dim 4 p=0;dim 9 h=1");
        x.light(0, 0, 1, 0);
        due("house 0", x.base(0, 0, 0), -3);
        due("house 1", x.base(0, 1, 0), -12);
    }

    static void p06AllThatHoldCountTogether() {
        StarCustody x = Check.under("dear 99 p=0" + ";dear 99 h=0".repeat(7));
        x.light(0, 0, 1, 0);
        due("all eight", x.base(0, 0, 0), 8 * 99);
        due("one of eight", x.base(0, 1, 0), 99);
        StarCustody y = Check.under("dim 99 p=0" + ";dim 99 p=0".repeat(8));
        y.light(0, 0, 1, 0);
        due("all nine dim", y.base(0, 0, 0), -9 * 99);
    }

    static void p06AnNOf0CountsNothing() {
        StarCustody x = Check.under("dear 0 p=0;dim 0 p=0");
        x.light(0, 0, 1, 0);
        due("base", x.base(0, 0, 0), 0);
    }

    private static void holds(String wish, int light, int house, int n, int want) {
        StarCustody x = Check.under("dear 1 " + wish);
        x.light(2, 7, 3, 0);
        x.light(5, 3, 4, 1);
        due(wish + " of " + light + ", " + house + ", " + n, x.base(light, house, n), want);
    }

    static void p06TheTestsOfALight() {
        holds("p=1", 1, 0, 0, 1);
        holds("p=1", 0, 1, 1, 0);
        holds("k=5", 1, 0, 0, 1);
        holds("k=2", 0, 0, 0, 1);
        holds("k=5", 0, 0, 0, 0);
        holds("v=7", 0, 0, 0, 1);
        holds("v=7", 1, 0, 0, 0);
        holds("h=1", 0, 1, 0, 1);
        holds("h=1", 1, 0, 0, 0);
        holds("h=0", 1, 0, 0, 1);
    }

    static void p06LessSameAndMoreAtTheirEdges() {
        int[][] wants = {{0, 0, 1}, {0, 1, 0}, {1, 0, 0}};
        for (int n = 6; n <= 8; n++) {
            holds("v<" + n, 0, 0, 0, wants[n - 6][0]);
            holds("v=" + n, 0, 0, 0, wants[n - 6][1]);
            holds("v>" + n, 0, 0, 0, wants[n - 6][2]);
        }
    }

    static void p06TheGreatestNumbers() {
        holds("p<99", 1, 0, 0, 1);
        holds("p>99", 1, 0, 0, 0);
        holds("n=10", 0, 0, 10, 0);
        holds("p>10", 1, 0, 0, 0);
        holds("k<50", 1, 0, 0, 1);
    }

    static void p06TheNightModulo10WrapsFrom9To0() {
        holds("n=9", 0, 0, 9, 1);
        holds("n=0", 0, 0, 10, 1);
        holds("n=9", 0, 0, 10, 0);
        holds("n=9", 0, 0, 59, 1);
        holds("n=0", 0, 0, 60, 1);
    }

    static void p06TheNightModulo7WrapsFrom6To0() {
        holds("m=6", 0, 0, 6, 1);
        holds("m=0", 0, 0, 7, 1);
        holds("m=6", 0, 0, 7, 0);
        holds("m=6", 0, 0, 13, 1);
        holds("m=0", 0, 0, 14, 1);
        holds("m=4", 0, 0, 60, 1);
    }

    static void p06AnAndBindsMoreThanAnOr() {
        holds("p=0|p=1&p=1", 0, 0, 0, 1);
        holds("p=1&p=1|p=0", 0, 0, 0, 1);
        holds("(p=0|p=1)&p=1", 0, 0, 0, 0);
        holds("p=1|p=0&p=1|p=0", 0, 0, 0, 1);
        holds("p=1|p=1", 0, 0, 0, 0);
        holds("p=0&v<9", 0, 0, 0, 1);
        holds("p=1&v<9", 0, 0, 0, 0);
        holds("v<9&p=1", 0, 0, 0, 0);
        holds("p=1|v<9", 0, 0, 0, 1);
        holds("p=0|v>9", 0, 0, 0, 1);
    }

    static void p06EachTestOnEitherSideOfAnOrAndAnAnd() {
        String[] wishes = {"v<7", "v=8", "v>7", "v<8", "v=7", "v>6"};
        for (int i = 0; i < wishes.length; i++) {
            for (int j = 0; j < wishes.length; j++) {
                holds(wishes[i] + "&" + wishes[j], 0, 0, 0, i > 2 && j > 2 ? 1 : 0);
                holds(wishes[i] + "|" + wishes[j], 0, 0, 0, i > 2 || j > 2 ? 1 : 0);
            }
        }
    }

    static void p06ANotIsOfItsFAlone() {
        holds("!p=1", 0, 0, 0, 1);
        holds("!p=0", 0, 0, 0, 0);
        holds("!p=1&p=1", 0, 0, 0, 0);
        holds("!p=0|p=0", 0, 0, 0, 1);
        holds("!(p=1&p=1)", 0, 0, 0, 1);
        holds("!(p=0|p=1)", 0, 0, 0, 0);
    }

    static void p06FiveOpenHold() {
        holds("!!!!p=0", 0, 0, 0, 1);
        holds("!!!!!p=0", 0, 0, 0, 0);
        holds("!!!!!p=1", 0, 0, 0, 1);
        holds("(((((p=0)))))", 0, 0, 0, 1);
        holds("p=1|(p=0&(p=1|(p=0&(p=1|(p=0&p=0)))))", 0, 0, 0, 1);
        holds("p=0&(p=1|p=0&(p=1|p=0&(p=1|p=0&(p=1|p=0&(p=1|p=0)))))", 0, 0, 0, 1);
        holds("p=0&(p=1|p=0&(p=1|p=0&(p=1|p=0&(p=1|p=0&(p=1|p=1)))))", 0, 0, 0, 0);
    }

    static void p06TheLongestE() {
        holds("p=1" + "|p=1".repeat(22), 0, 0, 0, 0);
        holds("p=1" + "|p=1".repeat(22), 1, 0, 0, 1);
        holds("p=0" + "&p=0".repeat(22), 0, 0, 0, 1);
        holds("p=0" + "&p=0".repeat(21) + "&p=1", 0, 0, 0, 0);
    }

    // ---- 7

    private static void worths(String clauses, int kind, int v, int toZero, int toOne) {
        StarCustody x = Check.under(clauses);
        x.light(kind, v, 1, 0);
        due("kind " + kind + " to house 0 by " + clauses, x.worth(0, 0, 0), toZero);
        due("kind " + kind + " to house 1 by " + clauses, x.worth(0, 1, 0), toOne);
    }

    static void p07TheWorthOfEachKind() {
        worths("dear 3 h=1", 0, 4, 5, 8);
        worths("dear 3 h=1", 1, 4, 2, 5);
        worths("dear 3 h=1", 2, 4, 5, 8);
        worths("dear 3 h=1", 3, 4, 4, 7);
        worths("dear 3 h=1", 4, 4, 4, 10);
        worths("dear 3 h=1", 5, 4, 5, 12);
        worths("dear 3 h=1", 6, 4, 4, 7);
    }

    static void p07ItIs0AtLeast() {
        worths("dim 5 h=0;dim 6 h=1", 0, 4, 0, 0);
        worths("dim 2 h=0;dim 3 h=1", 1, 4, 0, 0);
        worths("dim 5 h=0;dim 99 h=1", 2, 4, 0, 0);
        worths("dim 4 h=0;dim 5 h=1", 3, 4, 0, 0);
        worths("dim 2 h=0;dim 3 h=1", 4, 4, 0, 0);
        worths("dim 5 h=0;dim 10 h=1", 5, 4, 0, 0);
        worths("dim 4 h=0;dim 5 h=1", 6, 4, 0, 0);
    }

    static void p07ItIs1WhereItIsNot0() {
        worths("dim 4 p=0", 0, 4, 1, 1);
        worths("dim 1 p=0", 1, 4, 1, 1);
        worths("dim 4 p=0", 2, 4, 1, 1);
        worths("dim 3 p=0", 3, 4, 1, 1);
        worths("dim 1 p=0", 4, 4, 2, 2);
        worths("dim 4 p=0", 5, 4, 1, 5);
        worths("dim 3 p=0", 6, 4, 1, 1);
    }

    static void p07ItIs0AtLeastInTheEndAlone() {
        worths("dim 7 p=0", 5, 4, 0, 2);
        worths("dim 9 p=0", 5, 4, 0, 0);
        StarCustody x = Check.under("dim 9 p=0");
        x.light(6, 4, 1, 0);
        x.row(0, 0, 5);
        x.row(0, 1, 6);
        due("v and row make up", x.worth(0, 0, 0), 0);
        due("for more than the dim", x.worth(0, 0, 1), 1);
    }

    static void p07NIsFromNowOn() {
        StarCustody x = Check.under("dear 1 n=3");
        x.light(0, 0, 1, 0);
        due("n 2", x.worth(0, 0, 2), 5);
        due("n 3", x.worth(0, 0, 3), 6);
        x.pass(3);
        due("n 0", x.worth(0, 0, 0), 6);
    }

    static void p07Nights0And60AreTaken() {
        StarCustody x = Check.under("dear 1 n=0");
        x.light(0, 0, 1, 0);
        due("n 0", x.worth(0, 0, 0), 6);
        due("n 60", x.worth(0, 0, 60), 6);
    }

    static void p07BeyondNight9999() {
        StarCustody x = Check.under("dear 1 n=9");
        x.light(6, 2, 1, 0);
        x.row(0, 3, 7);
        Check.pass(x, 9999);
        due("night 9999", x.worth(0, 0, 0), 10);
        due("night 10059", x.worth(0, 0, 60), 10);
        due("night 10058", x.worth(0, 0, 59), 2);
    }

    static void p07NoSuchLightIsNone() {
        StarCustody x = sixOfKind(0);
        for (int light : Check.beyond(0, 5)) {
            due("light " + light, x.worth(light, 0, 0), -1);
        }
        due("none has come", new StarCustody().worth(0, 0, 0), -1);
    }

    static void p07HousesOutside0And1AreNone() {
        StarCustody x = sixOfKind(0);
        for (int house : Check.beyond(0, 1)) {
            due("house " + house, x.worth(0, house, 0), -1);
        }
    }

    static void p07NightsOutside0To60AreBad() {
        StarCustody x = sixOfKind(0);
        for (int n : Check.beyond(0, 60)) {
            due("n " + n, x.worth(0, 0, n), -2);
        }
    }

    static void p07NoneIsAheadOfBad() {
        StarCustody x = sixOfKind(0);
        due("light", x.worth(6, 0, 61), -1);
        due("house", x.worth(0, 2, -1), -1);
    }

    static void p07OneThatIsNotUpHasItsWorth() {
        StarCustody x = Check.under("cloud 1");
        x.light(0, 0, 30, 1);
        due("not over the roof, clouded", x.worth(0, 0, 0), 5);
        x.hide(0, true);
        due("hidden", x.worth(0, 0, 0), 5);
    }

    // ---- 8

    static void p08ARowIs0AtFirst() {
        StarCustody x = sixOfKind(6);
        for (int light = 0; light < 6; light++) {
            for (int k = 0; k < 4; k++) {
                due("row of " + light, x.row(light, k, light + k), 0);
            }
        }
    }

    static void p08EachRowIsItsOwn() {
        StarCustody x = sixOfKind(6);
        for (int light = 0; light < 6; light++) {
            for (int k = 0; k < 4; k++) {
                x.row(light, k, light + k);
            }
        }
        for (int light = 0; light < 6; light++) {
            for (int k = 0; k < 4; k++) {
                due("worth of " + light + " on " + k, x.worth(light, 1, 8 + k), light + k);
                due("row of " + light, x.row(light, k, 0), light + k);
            }
        }
    }

    static void p08KWrapsFromNight3ToNight4() {
        StarCustody x = Check.with(6, 2, 1, 0);
        x.row(0, 0, 4);
        x.row(0, 3, 7);
        int[] wants = {6, 2, 2, 9, 6, 2, 2, 9, 6};
        for (int night = 0; night < wants.length; night++) {
            due("night " + night, x.worth(0, 0, night), wants[night]);
        }
        x.pass(3);
        due("night 3, now", x.worth(0, 0, 0), 9);
        due("night 4, from night 3", x.worth(0, 0, 1), 6);
    }

    static void p08N0And9AreTaken() {
        StarCustody x = Check.with(6, 0, 1, 0);
        due("9", x.row(0, 0, 9), 0);
        due("0, was 9", x.row(0, 0, 0), 9);
        due("was 0", x.row(0, 0, 5), 0);
    }

    static void p08NoSuchLightIsNone() {
        StarCustody x = sixOfKind(6);
        for (int light : Check.beyond(0, 5)) {
            due("light " + light, x.row(light, 0, 0), -1);
        }
        due("a light that has not come", Check.with(6, 0, 1, 0).row(1, 0, 0), -1);
    }

    static void p08KOutside0To3IsNone() {
        StarCustody x = sixOfKind(6);
        for (int k : Check.beyond(0, 3)) {
            due("k " + k, x.row(1, k, 0), -1);
        }
    }

    static void p08NOutside0To9IsBad() {
        StarCustody x = Check.with(6, 0, 1, 0);
        x.row(0, 0, 4);
        for (int n : Check.beyond(0, 9)) {
            due("n " + n, x.row(0, 0, n), -2);
        }
        due("it stays", x.row(0, 0, 0), 4);
    }

    static void p08AnotherKindIsState() {
        for (int kind = 0; kind <= 5; kind++) {
            due("kind " + kind, Check.with(kind, 0, 1, 0).row(0, 0, 5), -3);
        }
    }

    static void p08AnotherKindsWorthStays() {
        StarCustody x = Check.with(3, 4, 1, 0);
        x.row(0, 0, 5);
        due("worth", x.worth(0, 0, 0), 4);
    }

    static void p08NoneIsAheadOfBadAndState() {
        StarCustody x = Check.with(0, 0, 1, 0);
        due("light", x.row(1, 0, 10), -1);
        due("k", x.row(0, 4, 10), -1);
        due("k of another kind", x.row(0, -1, 0), -1);
    }

    static void p08BadIsAheadOfState() {
        StarCustody x = Check.with(3, 0, 1, 0);
        due("too large", x.row(0, 0, 10), -2);
        due("too small", x.row(0, 0, -1), -2);
    }

    // ---- 9

    static void p09RoundBecomesNAndTellsWhatItWas() {
        StarCustody x = Check.with(0, 1, 5, 2);
        due("was 5", x.set(0, 0, 30), 5);
        due("was 30", x.set(0, 0, 1), 30);
        due("is 1", x.of(0, 2), 1);
        due("phase stays", x.of(0, 3), 2);
    }

    static void p09PhaseBecomesNAndTellsWhatItWas() {
        StarCustody x = Check.with(0, 1, 5, 2);
        due("was 2", x.set(0, 1, 29), 2);
        due("was 29", x.set(0, 1, 0), 29);
        due("is 0", x.of(0, 3), 0);
        due("round stays", x.of(0, 2), 5);
    }

    static void p09RoundOutside1To30IsBad() {
        StarCustody x = Check.with(0, 1, 5, 2);
        for (int n : Check.beyond(1, 30)) {
            due("round " + n, x.set(0, 0, n), -2);
        }
        due("it stays", x.of(0, 2), 5);
    }

    static void p09PhaseOutside0To29IsBad() {
        StarCustody x = Check.with(0, 1, 5, 2);
        for (int n : Check.beyond(0, 29)) {
            due("phase " + n, x.set(0, 1, n), -2);
        }
        due("it stays", x.of(0, 3), 2);
    }

    static void p09NoSuchLightIsNone() {
        StarCustody x = sixOfKind(0);
        for (int light : Check.beyond(0, 5)) {
            due("light " + light, x.set(light, 0, 1), -1);
        }
        due("a light that has not come", Check.with(0, 0, 1, 0).set(1, 0, 1), -1);
    }

    static void p09WhatOutside0And1IsNone() {
        StarCustody x = sixOfKind(0);
        for (int what : Check.beyond(0, 1)) {
            due("what " + what, x.set(0, what, 1), -1);
        }
    }

    static void p09NoneIsAheadOfBad() {
        StarCustody x = Check.with(0, 0, 1, 0);
        due("light", x.set(1, 0, 0), -1);
        due("what", x.set(0, 2, 99), -1);
    }

    static void p09ALightGoesByItsNewRoundAndPhase() {
        StarCustody x = Check.with(0, 0, 30, 1);
        x.set(0, 0, 3);
        x.set(0, 1, 2);
        due("when", x.when(0), 1);
        x.set(0, 0, 1);
        due("up", x.of(0, 5), 1);
    }

    // ---- 10

    static void p10HideTellsWhetherItWas() {
        StarCustody x = sixOfKind(0);
        due("was not", x.hide(1, true), 0);
        due("was", x.hide(1, true), 1);
        due("was, is not", x.hide(1, false), 1);
        due("was not any more", x.hide(1, false), 0);
    }

    static void p10OneHiddenIsNotUpTillItIsShown() {
        StarCustody x = sixOfKind(0);
        x.hide(0, true);
        x.hide(5, true);
        due("hidden", x.told(5), 30);
        x.hide(5, false);
        due("shown", x.told(5), 62);
    }

    static void p10NoSuchLightIsNone() {
        StarCustody x = sixOfKind(0);
        for (int light : Check.beyond(0, 5)) {
            due("hide " + light, x.hide(light, true), -1);
            due("show " + light, x.hide(light, false), -1);
        }
        due("all are up", x.told(5), 63);
    }

    static void p10ALightThatHasNotComeIsNone() {
        StarCustody x = Check.with(0, 0, 1, 0);
        due("light 1", x.hide(1, true), -1);
        x.light(0, 0, 1, 0);
        due("when it comes it is not hidden", x.of(1, 4), 0);
    }
}
