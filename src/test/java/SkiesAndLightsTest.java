/** Promises 1 to 12. */
public final class SkiesAndLightsTest {
    public static void main(String[] args) {
        promise1();
        promise2();
        promise3Faults();
        promise3Clauses();
        promise3Holding();
        promise4();
        promise5();
        promise5UpOfEachKind();
        promise6();
        promise6Tests();
        promise7();
        promise8();
        promise8Each();
        promise9();
        promise10();
        promise11();
        promise12();
        promise12Held();
        Check.end("SkiesAndLightsTest");
    }

    private static void due(String what, long got, long want) {
        Check.due(what, got, want);
    }

    private static void promise1() {
        StarCustody x = new StarCustody();
        for (int what = 0; what <= 6; what++) {
            due("1: count " + what, x.count(what), 0);
        }
        due("1: no light", x.of(0, 0), -1);
        due("1: turn", x.told(1), 1);
        due("1: cloud", x.told(2), 0);
        due("1: night", x.told(0), 0);
        due("1: seen", x.told(6) + x.told(7), 0);
        due("1: no image", x.undo(), -3);
        due("1: NONE", StarCustody.NONE, -1);
        due("1: BAD", StarCustody.BAD, -2);
        due("1: STATE", StarCustody.STATE, -3);
        due("1: FULL", StarCustody.FULL, -4);
        due("1: NO", StarCustody.NO, Long.MIN_VALUE);
    }

    private static void promise2() {
        StarCustody x = new StarCustody();
        due("2: -1", x.feed(-1), -2);
        due("2: 128", x.feed(128), -2);
        for (int i = 1; i <= 100; i++) {
            due("2: sign " + i, x.feed(i % 128), i);
        }
        due("2: full", x.feed(0), -4);
        due("2: bad ahead of full", x.feed(128), -2);
        due("2: still 100", x.count(5), 100);
        x.sky();
        due("2: 0 is a sign", x.feed(0), 1);
        due("2: 127 is a sign", x.feed(127), 2);
    }

    private static void fault(String text, int place) {
        StarCustody x = new StarCustody();
        due("3: " + text, Check.sky(x, text), -10 - place);
        due("3: tape is empty behind " + text, x.count(5), 0);
        due("3: no sky by " + text, x.count(1), 0);
    }

    private static void promise3Faults() {
        fault("", 0);
        fault("x", 0);
        fault(" turn 1", 0);
        fault(";turn 1", 0);
        fault("d", 1);
        fault("dx", 1);
        fault("deer 1 p=1", 2);
        fault("din 1 p=1", 2);
        fault("turn", 4);
        fault("turn ", 5);
        fault("turn  1", 5);
        fault("turn1", 4);
        fault("turn x", 5);
        fault("turn 00", 6);
        fault("turn 01", 6);
        fault("turn 123", 7);
        fault("turn 1 ", 6);
        fault("turn 1 p=1", 6);
        fault("turn 1;", 7);
        fault("turn 1" + (char) 0, 6);
        fault("turn 1" + (char) 1, 6);
        fault("turn 1" + (char) 127, 6);
        fault("dear 1 p=1" + (char) 0 + "p=1", 10);
        fault("turn 1;;turn 1", 7);
        fault("clouds 1", 5);
        fault("cloud 9|", 7);
        fault("dear 1", 6);
        fault("dear 1;", 6);
        fault("dear 1 ", 7);
        fault("dear 1  p=1", 7);
        fault("dear 1 q=1", 7);
        fault("dear 1 p", 8);
        fault("dear 1 p!1", 8);
        fault("dear 1 p=", 9);
        fault("dear 1 p==", 9);
        fault("dear 1 p=p", 9);
        fault("dear 1 p=10|", 12);
        fault("dear 1 p=05", 10);
        fault("dear 1 p=100", 11);
        fault("dear 1 p=1|", 11);
        fault("dear 1 p=1&", 11);
        fault("dear 1 p=1||", 11);
        fault("dear 1 p=1)", 10);
        fault("dear 1 (p=1", 11);
        fault("dear 1 (p=1;", 11);
        fault("dear 1 ()", 8);
        fault("dear 1 (p=1))", 12);
        fault("dear 1 (p=1)p", 12);
        fault("dear 1 !", 8);
        fault("dear 1 !)", 8);
        fault("dear 1 !!!!!!p=1", 12);
        fault("dear 1 ((((((p=1))))))", 12);
        fault("dear 1 !(!(!(p=1)))", 12);
        fault("dear 1 !!!!!(p=1)", 12);
        fault("dear 1 (!!!!p=1&!!!!!p=1)", 20);
        fault("dear 1 p=1;dear 1 p=x", 20);
        fault("turn 1;turn 2;turn 3;turn 4;turn 5;turn 6;turn 7;turn 8;turn 9;turn 1;turn 1", 69);
        fault("turn 1;turn 2;turn 3;turn 4;turn 5;turn 6;turn 7;turn 8;turn 9;turn 1;", 69);
    }

    private static void isSky(String text) {
        due("3: " + text, Check.sky(new StarCustody(), text), 0);
    }

    private static void promise3Clauses() {
        isSky("turn 0");
        isSky("cloud 99");
        isSky("dear 0 p=0");
        isSky("dim 10 p>99");
        isSky("dear 1 !!!!!p=1");
        isSky("dear 1 (((((p=1)))))");
        isSky("dear 1 !!!!!p=1&!!!!!p=1|!!!!!p=1");
        isSky("dear 1 (!!!!p=1&!!!!p=1)&((((p=1))))");
        isSky("dear 1 p=1|k<2&v>3|h=4&n=5|m=6");
        isSky("turn 1;turn 2;turn 3;turn 4;turn 5;turn 6;turn 7;turn 8;turn 9;turn 1");
        isSky("dear 10 p=10" + "|p=1".repeat(22));
    }

    private static void promise3Holding() {
        StarCustody x = new StarCustody();
        due("3: first", Check.sky(x, "turn 3;cloud 4"), 0);
        due("3: fault", Check.sky(x, "turn 5;cloud x"), -23);
        due("3: turn still holds", x.told(1), 3);
        due("3: cloud still holds", x.told(2), 4);
        due("3: second", Check.sky(x, "turn 7;turn 2;turn 9"), 1);
        due("3: the last turn", x.told(1), 9);
        due("3: no cloud now", x.told(2), 0);
        due("3: third", Check.sky(x, "turn 4;cloud 2;turn 0;cloud 5;cloud 0"), 2);
        due("3: turn 0 is 1", x.told(1), 1);
        due("3: cloud 0", x.told(2), 0);
        due("3: fourth", Check.sky(x, "cloud 3"), 3);
        due("3: turn without", x.told(1), 1);
        due("3: fifth", Check.sky(x, "turn 2"), 4);
        Check.feed(x, "x");
        due("3: full ahead of a fault", x.sky(), -4);
        due("3: the tape stays", x.count(5), 1);
        due("3: five", x.count(1), 5);
        due("3: the fifth holds", x.told(1), 2);
    }

    private static void promise4() {
        StarCustody x = new StarCustody();
        due("4: kind -1", x.light(-1, 0, 1, 0), -1);
        due("4: kind 7", x.light(7, 99, 99, 99), -1);
        due("4: v -1", x.light(0, -1, 1, 0), -2);
        due("4: v 10", x.light(0, 10, 1, 0), -2);
        due("4: round 0", x.light(0, 0, 0, 0), -2);
        due("4: round 31", x.light(0, 0, 31, 0), -2);
        due("4: phase -1", x.light(0, 0, 1, -1), -2);
        due("4: phase 30", x.light(0, 0, 1, 30), -2);
        due("4: none came", x.count(0), 0);
        due("4: least", x.light(0, 0, 1, 0), 0);
        due("4: most", x.light(6, 9, 30, 29), 1);
        for (int i = 2; i < 6; i++) {
            due("4: light " + i, x.light(i, i, i, i), i);
        }
        due("4: full", x.light(0, 0, 1, 0), -4);
        due("4: bad ahead of full", x.light(0, 10, 1, 0), -2);
        due("4: none ahead of full", x.light(7, 0, 1, 0), -1);
        due("4: six", x.count(0), 6);
    }

    private static void promise5() {
        StarCustody x = new StarCustody();
        for (int kind = 1; kind <= 6; kind++) {
            x.light(kind, kind + 2, kind + 10, kind + 20);
        }
        for (int i = 0; i < 6; i++) {
            due("5: kind " + i, x.of(i, 0), i + 1);
            due("5: v " + i, x.of(i, 1), i + 3);
            due("5: round " + i, x.of(i, 2), i + 11);
            due("5: phase " + i, x.of(i, 3), i + 21);
            due("5: hidden " + i, x.of(i, 4), 0);
        }
        x.hide(3, true);
        due("5: hidden", x.of(3, 4), 1);
        due("5: another is not", x.of(2, 4), 0);
        due("5: light -1", x.of(-1, 0), -1);
        due("5: light 6", x.of(6, 0), -1);
        due("5: what -1", x.of(0, -1), -1);
        due("5: what 6", x.of(0, 6), -1);
    }

    private static void up(int kind, int v, int round, int phase, String nights) {
        StarCustody x = new StarCustody();
        x.light(kind, v, round, phase);
        for (int night = 0; night < nights.length(); night++) {
            due("5: up of kind " + kind + " on night " + night, x.of(0, 5), nights.charAt(night) - '0');
            x.pass(1);
        }
    }

    private static void promise5UpOfEachKind() {
        up(0, 3, 5, 2, "000100001000010");
        up(1, 3, 5, 2, "000110001100011");
        up(1, 3, 4, 0, "110011001100");
        up(1, 3, 1, 0, "111");
        up(1, 3, 2, 0, "101010");
        up(1, 3, 3, 0, "100100");
        up(2, 1, 3, 1, "000000000001001001");
        up(2, 0, 3, 1, "001001001");
        up(3, 3, 4, 1, "000100010001");
        up(4, 3, 5, 2, "000110001100011");
        up(4, 3, 1, 4, "111");
        up(4, 3, 2, 1, "010101");
        up(5, 0, 1, 0, "011111101111110");
        up(5, 1, 2, 1, "0000000000010101010100");
        up(6, 3, 4, 1, "000100010001");
        StarCustody x = new StarCustody();
        x.light(0, 0, 1, 0);
        x.hide(0, true);
        due("5: a hidden one is never up", x.of(0, 5), 0);
    }

    private static void promise6() {
        StarCustody x = Check.under("dear 9 p=0;dim 4 n>4;dear 2 h=1;dim 3 m=0&!p=1");
        x.light(0, 1, 2, 3);
        x.light(1, 1, 2, 3);
        due("6: below 0", x.base(1, 0, 5), -4);
        due("6: less", x.base(0, 0, 0), 6);
        due("6: house 1", x.base(0, 1, 0), 8);
        due("6: n", x.base(0, 0, 5), 5);
        due("6: n 60", x.base(0, 0, 60), 9);
        x.pass(60);
        due("6: night 63", x.base(0, 0, 3), 6);
        due("6: light 2", x.base(2, 0, 0), -9999999);
        due("6: light -1", x.base(-1, 0, 0), -9999999);
        due("6: house 2", x.base(0, 2, 0), -9999999);
        due("6: house -1", x.base(0, -1, 0), -9999999);
        due("6: n 61", x.base(0, 0, 61), -9999999);
        due("6: n -1", x.base(0, 0, -1), -9999999);
    }

    private static void holds(String wish, int light, int house, int n, int want) {
        StarCustody x = Check.under("dear 1 " + wish);
        x.light(2, 7, 3, 0);
        x.light(5, 3, 4, 1);
        due("6: " + wish + " of " + light + ", " + house + ", " + n, x.base(light, house, n), want);
    }

    private static void promise6Tests() {
        holds("p=1", 1, 0, 0, 1);
        holds("p=1", 0, 1, 1, 0);
        holds("k=5", 1, 0, 0, 1);
        holds("k=2", 0, 0, 0, 1);
        holds("v=7", 0, 0, 0, 1);
        holds("v>3", 1, 0, 0, 0);
        holds("v<4", 1, 0, 0, 1);
        holds("v<3", 1, 0, 0, 0);
        holds("h=1", 0, 1, 0, 1);
        holds("h=1", 1, 0, 0, 0);
        holds("n=9", 0, 0, 59, 1);
        holds("n=0", 0, 0, 10, 1);
        holds("n=10", 0, 0, 10, 0);
        holds("m=6", 0, 0, 13, 1);
        holds("m=0", 0, 0, 14, 1);
        holds("p<10", 0, 0, 0, 1);
        holds("p=0|p=1&p=1", 0, 0, 0, 1);
        holds("p=1&p=1|p=0", 0, 0, 0, 1);
        holds("(p=0|p=1)&p=1", 0, 0, 0, 0);
        holds("p=1|p=0&p=1|p=0", 0, 0, 0, 1);
        holds("!p=1&p=1", 0, 0, 0, 0);
        holds("p=1|p=1", 0, 0, 0, 0);
        holds("p=0&v<9", 0, 0, 0, 1);
        holds("p=1&v<9", 0, 0, 0, 0);
        holds("p=1|v<9", 0, 0, 0, 1);
        holds("p=0&v>3", 0, 0, 0, 1);
        holds("p=0|v>9", 0, 0, 0, 1);
        holds("!p=0|p=0", 0, 0, 0, 1);
        holds("!(p=1&p=1)", 0, 0, 0, 1);
        holds("!!p=0", 0, 0, 0, 1);
        holds("!!!p=0", 0, 0, 0, 0);
        holds("p=1|(p=0&(p=1|(p=0&(p=1|(p=0&p=0)))))", 0, 0, 0, 1);
        holds("p=0&(p=1|p=0&(p=1|p=0&(p=1|p=0&(p=1|p=0&(p=1|p=0)))))", 0, 0, 0, 1);
    }

    private static void worths(String clauses, int kind, int v, int toZero, int toOne) {
        StarCustody x = Check.under(clauses);
        x.light(kind, v, 1, 0);
        due("7: kind " + kind + " to house 0 by " + clauses, x.worth(0, 0, 0), toZero);
        due("7: kind " + kind + " to house 1 by " + clauses, x.worth(0, 1, 0), toOne);
    }

    private static void promise7() {
        worths("dear 3 h=1", 0, 4, 5, 8);
        worths("dear 3 h=1", 1, 4, 2, 5);
        worths("dear 3 h=1", 2, 4, 5, 8);
        worths("dear 3 h=1", 3, 4, 4, 7);
        worths("dear 3 h=1", 4, 4, 4, 10);
        worths("dear 3 h=1", 5, 4, 5, 12);
        worths("dear 3 h=1", 6, 4, 4, 7);
        worths("dim 6 p=0", 0, 4, 0, 0);
        worths("dim 4 p=0", 0, 4, 1, 1);
        worths("dim 1 p=0", 4, 4, 2, 2);
        worths("dim 3 p=0", 4, 4, 0, 0);
        worths("dim 7 p=0", 5, 4, 0, 2);
        worths("dim 3 p=0", 3, 4, 1, 1);
        worths("dim 5 p=0", 6, 4, 0, 0);
        StarCustody x = Check.under("dear 1 n=3");
        x.light(0, 0, 1, 0);
        due("7: n", x.worth(0, 0, 3), 6);
        x.pass(3);
        due("7: from now", x.worth(0, 0, 0), 6);
        due("7: n 60", x.worth(0, 0, 60), 6);
        x.hide(0, true);
        due("7: a light that is not up, too", x.worth(0, 0, 0), 6);
        due("7: light", x.worth(1, 0, 0), -1);
        due("7: light -1", x.worth(-1, 0, 61), -1);
        due("7: house 2", x.worth(0, 2, 61), -1);
        due("7: house -1", x.worth(0, -1, 0), -1);
        due("7: n 61", x.worth(0, 0, 61), -2);
        due("7: n -1", x.worth(0, 0, -1), -2);
    }

    private static void promise8() {
        StarCustody x = Check.under("dim 5 h=1");
        x.light(3, 1, 1, 0);
        x.light(6, 2, 1, 0);
        due("8: first", x.row(1, 0, 9), 0);
        due("8: again", x.row(1, 0, 4), 9);
        due("8: last", x.row(1, 3, 7), 0);
        due("8: night 0", x.worth(1, 0, 0), 6);
        due("8: night 1", x.worth(1, 0, 1), 2);
        due("8: night 3", x.worth(1, 0, 3), 9);
        due("8: night 4", x.worth(1, 1, 4), 1);
        due("8: night 7", x.worth(1, 1, 7), 4);
        due("8: night 5", x.worth(1, 1, 5), 0);
        due("8: light", x.row(2, 0, 10), -1);
        due("8: light -1", x.row(-1, 0, 0), -1);
        due("8: k 4", x.row(1, 4, 10), -1);
        due("8: k -1", x.row(0, -1, 0), -1);
        due("8: n 10", x.row(1, 0, 10), -2);
        due("8: n -1", x.row(1, 0, -1), -2);
        due("8: bad ahead of state", x.row(0, 0, 10), -2);
        due("8: another kind", x.row(0, 0, 5), -3);
        due("8: nothing changed", x.row(1, 0, 0), 4);
        due("8: back to 0", x.worth(1, 0, 0), 2);
    }

    private static void promise8Each() {
        StarCustody x = new StarCustody();
        for (int light = 0; light < 6; light++) {
            x.light(6, 0, 1, 0);
            for (int k = 0; k < 4; k++) {
                due("8: new row of " + light, x.row(light, k, light + k), 0);
            }
        }
        for (int light = 0; light < 6; light++) {
            for (int k = 0; k < 4; k++) {
                due("8: worth of " + light + " on " + k, x.worth(light, 1, 8 + k), light + k);
                due("8: row of " + light, x.row(light, k, 0), light + k);
            }
        }
    }

    private static void promise9() {
        StarCustody x = new StarCustody();
        x.light(0, 1, 5, 2);
        due("9: round", x.set(0, 0, 30), 5);
        due("9: round was", x.set(0, 0, 1), 30);
        due("9: round is", x.of(0, 2), 1);
        due("9: phase", x.set(0, 1, 29), 2);
        due("9: phase was", x.set(0, 1, 0), 29);
        due("9: phase is", x.of(0, 3), 0);
        due("9: light", x.set(1, 0, 0), -1);
        due("9: light -1", x.set(-1, 0, 1), -1);
        due("9: what 2", x.set(0, 2, 99), -1);
        due("9: what -1", x.set(0, -1, 1), -1);
        due("9: round 0", x.set(0, 0, 0), -2);
        due("9: round 31", x.set(0, 0, 31), -2);
        due("9: phase -1", x.set(0, 1, -1), -2);
        due("9: phase 30", x.set(0, 1, 30), -2);
        due("9: as it was", x.of(0, 2) * 100 + x.of(0, 3), 100);
        x.set(0, 0, 3);
        x.set(0, 1, 2);
        due("9: when", x.when(0), 1);
    }

    private static void promise10() {
        StarCustody x = new StarCustody();
        x.light(0, 0, 1, 0);
        x.light(0, 0, 1, 0);
        due("10: was not", x.hide(1, true), 0);
        due("10: was", x.hide(1, true), 1);
        due("10: up", x.told(5), 1);
        due("10: was, then not", x.hide(1, false), 1);
        due("10: not", x.hide(1, false), 0);
        due("10: up again", x.told(5), 3);
        due("10: light 2", x.hide(2, true), -1);
        due("10: light -1", x.hide(-1, true), -1);
    }

    private static void promise11() {
        StarCustody x = Check.under("turn 3;cloud 4;dear 2 h=1");
        x.light(0, 0, 2, 0);
        x.light(1, 0, 4, 3);
        x.light(6, 5, 1, 0);
        int[] turns = {0, 0, 0, 1, 1, 1, 0};
        int[] clouded = {0, 0, 0, 1, 0, 0, 0};
        int[] ups = {5, 6, 7, 4, 5, 6, 7};
        int[] toZero = {10, 7, 12, 0, 10, 7, 12};
        int[] toOne = {14, 11, 18, 0, 14, 11, 18};
        for (int night = 0; night < 7; night++) {
            due("11: night " + night, x.told(0), night);
            due("11: turn", x.told(1), 3);
            due("11: cloud", x.told(2), 4);
            due("11: whose on " + night, x.told(3), turns[night]);
            due("11: clouded on " + night, x.told(4), clouded[night]);
            due("11: up on " + night, x.told(5), ups[night]);
            due("11: has 0 on " + night, x.told(8), toZero[night]);
            due("11: has 1 on " + night, x.told(9), toOne[night]);
            x.pass(1);
        }
        due("11: seen 0", x.told(6), 10 + 7 + 12 + 12);
        due("11: seen 1", x.told(7), 14 + 11);
        due("11: what 10", x.told(10), -1);
        due("11: what -1", x.told(-1), -1);
        StarCustody y = Check.under("cloud 1");
        y.light(0, 0, 1, 0);
        due("11: cloud 1 is always", y.told(4), 1);
        due("11: has under cloud 1", y.told(8) + y.told(9), 0);
    }

    private static void promise12() {
        StarCustody x = new StarCustody();
        x.light(0, 0, 1, 0);
        due("12: 0", x.pass(0), 0);
        due("12: 5", x.pass(5), 5);
        due("12: seen 0", x.told(6), 15);
        due("12: seen 1", x.told(7), 10);
        due("12: -1", x.pass(-1), -2);
        due("12: 61", x.pass(61), -2);
        due("12: 60", x.pass(60), 65);
        Check.pass(x, 9998 - 65);
        due("12: above 9999", x.pass(2), -3);
        due("12: bad ahead of state", x.pass(61), -2);
        due("12: as it was", x.told(0), 9998);
        due("12: 9999", x.pass(1), 9999);
        due("12: 1 more", x.pass(1), -3);
        due("12: 0 more", x.pass(0), 9999);
        due("12: seen 0 of all", x.told(6), 5000 * 5);
    }

    private static void promise12Held() {
        StarCustody x = Check.under("turn 99;dear 99 p<9;dear 99 p<9;dear 99 p<9;dear 99 p<9;dear 99 p<9;dear 99 p<9;dear 99 p<9");
        for (int i = 0; i < 6; i++) {
            x.light(4, 0, 1, 0);
        }
        int aNight = 6 * 2 * (2 + 7 * 99);
        due("12: has", x.told(8), aNight);
        Check.pass(x, 720);
        due("12: not held yet", x.told(6), 4 * 99 * aNight);
        due("12: nor for house 1", x.told(7), (3 * 99 + 27) * aNight);
        Check.pass(x, 3600);
        due("12: held", x.told(6), 9999999);
        due("13: not held in the nights to come", x.on(60, 0) + x.on(60, 1), 2 * 9999999 + 60 * aNight);
        x.plan(0, 0);
        due("25: not held in a plan", x.done(0) + x.done(1), 2 * 9999999 + aNight);
    }
}
