/** Promises 18 to 23. */
public final class NotesAndOddsTest {
    public static void main(String[] args) {
        promise18();
        promise19();
        promise20();
        promise21();
        promise22();
        promise22Gains();
        promise23();
        Check.end("NotesAndOddsTest");
    }

    private static void due(String what, long got, long want) {
        Check.due(what, got, want);
    }

    private static void promise18() {
        StarCustody x = new StarCustody();
        due("18: light 0", x.note(0, 0, true), -1);
        due("18: none of none", x.note(-1, 99, true), 0);
        x.light(0, 0, 5, 0);
        x.light(0, 0, 5, 0);
        due("18: first", x.note(0, 0, true), 1);
        due("18: last night", x.note(1, 60, false), 2);
        due("18: light 2", x.note(2, 61, true), -1);
        due("18: light -2", x.note(-2, 0, true), -1);
        due("18: n 61", x.note(0, 61, true), -2);
        due("18: n -1", x.note(0, -1, true), -2);
        for (int i = 3; i <= 6; i++) {
            due("18: note " + i, x.note(0, i, false), i);
        }
        due("18: full", x.note(0, 0, true), -4);
        due("18: bad ahead of full", x.note(0, 61, true), -2);
        due("18: none ahead of full", x.note(9, 0, true), -1);
        due("18: six", x.count(2), 6);
        due("18: none then", x.note(-1, 0, true), 0);
        due("18: none", x.count(2), 0);
        due("18: all rounds again", x.rounds(0, 0), 30);
        due("18: again", x.note(0, 0, true), 1);
    }

    private static void promise19() {
        StarCustody x = new StarCustody();
        x.light(0, 0, 5, 2);
        x.light(1, 0, 5, 2);
        due("19: without notes", x.rounds(0, 0), 30);
        due("19: least without notes", x.rounds(0, 1), 1);
        x.note(0, 10, true);
        due("19: 12 is a multiple of six", x.rounds(0, 0), 6);
        due("19: least", x.rounds(0, 1), 1);
        x.note(0, 1, false);
        due("19: not of 1, 3", x.rounds(0, 0), 4);
        due("19: least of 2, 4, 6, 12", x.rounds(0, 1), 2);
        due("19: the other has none", x.rounds(1, 0), 30);
        x.note(1, 0, false);
        x.note(1, 1, true);
        due("19: a moon by 2 is down, by 3 up", x.rounds(1, 0), 1);
        due("19: its least", x.rounds(1, 1), 3);
        x.pass(1);
        due("19: from now: 13", x.rounds(0, 0), 1);
        due("19: from now, least", x.rounds(0, 1), 13);
        x.note(0, 10, false);
        due("19: not both", x.rounds(0, 0), 0);
        due("19: no least", x.rounds(0, 1), -5);
        due("19: nothing changed", x.of(0, 2), 5);
        due("19: light", x.rounds(2, 0), -1);
        due("19: light -1", x.rounds(-1, 0), -1);
        due("19: what 2", x.rounds(0, 2), -1);
        due("19: what -1", x.rounds(0, -1), -1);
        hidden();
    }

    private static void hidden() {
        StarCustody x = new StarCustody();
        x.light(0, 0, 5, 2);
        x.hide(0, true);
        x.note(0, 0, false);
        due("19: a hidden one is never up", x.rounds(0, 0), 30);
        due("20: nor by a phase", x.phases(0, 0), 30);
        due("21: nor by a v", x.firm(0, 0), 10);
        x.note(0, 1, true);
        due("19: so none", x.rounds(0, 1), -5);
        due("20: so none", x.phases(0, 1), -5);
        due("21: so none", x.firm(0, 1), -5);
    }

    private static void promise20() {
        StarCustody x = new StarCustody();
        x.light(3, 0, 7, 2);
        x.light(0, 0, 30, 2);
        due("20: without notes", x.phases(0, 0), 30);
        due("20: least without notes", x.phases(0, 1), 0);
        x.note(0, 3, true);
        due("20: 4, 11, 18, 25", x.phases(0, 0), 4);
        due("20: 4", x.phases(0, 1), 4);
        x.note(0, 4, true);
        due("20: none", x.phases(0, 0), 0);
        due("20: no least", x.phases(0, 1), -5);
        x.note(1, 1, true);
        due("20: 29", x.phases(1, 1), 29);
        due("20: nothing changed", x.of(0, 3), 2);
        due("20: light", x.phases(2, 0), -1);
        due("20: what 2", x.phases(0, 2), -1);
        due("20: what -1", x.phases(0, -1), -1);
    }

    private static void promise21() {
        StarCustody x = new StarCustody();
        x.light(2, 3, 5, 0);
        x.light(0, 3, 5, 0);
        due("21: without notes", x.firm(0, 0), 10);
        due("21: least without notes", x.firm(0, 1), 0);
        x.note(0, 30, true);
        due("21: 0 .. 3", x.firm(0, 0), 4);
        x.note(0, 15, false);
        due("21: 2, 3", x.firm(0, 0), 2);
        due("21: 2", x.firm(0, 1), 2);
        x.note(0, 5, true);
        due("21: none", x.firm(0, 0), 0);
        due("21: no least", x.firm(0, 1), -5);
        x.note(1, 5, true);
        due("21: a star by any v", x.firm(1, 0), 10);
        x.note(-1, 0, true);
        x.note(0, 60, false);
        due("21: 7, 8, 9", x.firm(0, 0), 3);
        due("21: 7", x.firm(0, 1), 7);
        due("21: nothing changed", x.of(0, 1), 3);
        due("21: light", x.firm(2, 0), -1);
        due("21: what 2", x.firm(0, 2), -1);
        due("21: what -1", x.firm(0, -1), -1);
    }

    private static void odds(StarCustody x, int house, int n, int q, long above, long below) {
        due("22: above of " + house + ", " + n + ", " + q, x.odds(house, n, q, 0), above);
        due("22: below of " + house + ", " + n + ", " + q, x.odds(house, n, q, 1), below);
    }

    private static void promise22() {
        StarCustody x = Check.under("turn 2;cloud 3");
        x.light(0, 0, 1, 0);
        odds(x, 0, 0, 0, 1, 1);
        odds(x, 0, 0, 1, 0, 1);
        odds(x, 0, 1, 1, 12, 13);
        odds(x, 0, 2, 6, 11, 13);
        odds(x, 0, 2, 5, 12, 13);
        odds(x, 0, 2, 11, 0, 1);
        odds(x, 1, 2, 1, 0, 1);
        odds(x, 1, 4, 10, 9, 13);
        odds(x, 1, 4, 5, 12, 13);
        odds(x, 0, 60, 9999, 0, 1);
        odds(x, 0, 1, 6, 0, 1);
        due("22: nothing changed", x.told(2) * 100 + x.told(0), 300);
        due("22: house 2", x.odds(2, 0, 0, 0), Long.MIN_VALUE);
        due("22: house -1", x.odds(-1, 0, 0, 0), Long.MIN_VALUE);
        due("22: n 61", x.odds(0, 61, 0, 0), Long.MIN_VALUE);
        due("22: n -1", x.odds(0, -1, 0, 0), Long.MIN_VALUE);
        due("22: q -1", x.odds(0, 0, -1, 0), Long.MIN_VALUE);
        due("22: q 10000", x.odds(0, 0, 10000, 0), Long.MIN_VALUE);
        due("22: part 2", x.odds(0, 0, 0, 2), Long.MIN_VALUE);
        due("22: part -1", x.odds(0, 0, 0, -1), Long.MIN_VALUE);
    }

    /** What has been seen till now is no part of it. */
    private static void promise22Gains() {
        StarCustody x = new StarCustody();
        x.light(0, 0, 1, 0);
        x.pass(12);
        due("22: seen", x.told(6), 30);
        odds(x, 0, 1, 5, 12, 13);
        odds(x, 0, 1, 6, 0, 1);
        x.pass(11);
        odds(x, 1, 1, 1, 6, 13);
    }

    private static void mean(StarCustody x, int house, long above, long below) {
        due("23: above of " + house, x.mean(house, 0), above);
        due("23: below of " + house, x.mean(house, 1), below);
    }

    private static void promise23() {
        StarCustody x = Check.under("turn 30;dear 2 h=1&n=0");
        mean(x, 0, 0, 1);
        x.light(0, 0, 1, 0);
        mean(x, 0, 5, 1);
        mean(x, 1, 73, 14);
        x.set(0, 0, 28);
        mean(x, 0, 5, 28);
        mean(x, 1, 1, 4);
        x.set(0, 1, 1);
        mean(x, 1, 5, 28);
        due("23: a sky", Check.sky(x, "cloud 7"), 1);
        mean(x, 0, 0, 1);
        x.set(0, 0, 1);
        mean(x, 0, 30, 7);
        due("23: nothing changed", x.told(0) + x.told(6), 0);
        due("23: house 2", x.mean(2, 0), Long.MIN_VALUE);
        due("23: house -1", x.mean(-1, 0), Long.MIN_VALUE);
        due("23: part 2", x.mean(0, 2), Long.MIN_VALUE);
        due("23: part -1", x.mean(0, -1), Long.MIN_VALUE);
    }
}
