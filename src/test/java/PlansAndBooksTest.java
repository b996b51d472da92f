/** Promises 24 to 27. */
public final class PlansAndBooksTest {
    public static void main(String[] args) {
        promise24();
        promise25();
        promise26();
        promise27();
        Check.end("PlansAndBooksTest");
    }

    private static void due(String what, long got, long want) {
        Check.due(what, got, want);
    }

    private static void promise24() {
        StarCustody x = new StarCustody();
        due("24: a night of no light", x.plan(0, 99), 1);
        due("24: hide of no light", x.plan(1, 0), -1);
        due("24: show of no light", x.plan(2, 0), -1);
        x.light(0, 0, 1, 0);
        due("24: hide", x.plan(1, 0), 2);
        due("24: show", x.plan(2, 0), 3);
        due("24: light -1", x.plan(1, -1), -1);
        due("24: light 1", x.plan(2, 1), -1);
        due("24: what 3", x.plan(3, 0), -1);
        due("24: what -2", x.plan(-2, 0), -1);
        for (int i = 4; i <= 8; i++) {
            due("24: row " + i, x.plan(0, -1), i);
        }
        due("24: full", x.plan(0, 0), -4);
        due("24: none ahead of full", x.plan(1, 1), -1);
        due("24: eight", x.count(3), 8);
        due("24: none then", x.plan(-1, 99), 0);
        due("24: none", x.count(3), 0);
        due("24: again", x.plan(0, 0), 1);
    }

    private static void promise25() {
        StarCustody x = Check.under("turn 2;cloud 5;dear 1 h=1");
        x.light(0, 0, 1, 0);
        x.light(3, 3, 1, 0);
        x.hide(1, true);
        due("25: without rows", x.done(0), 0);
        x.plan(0, 0);
        due("25: a night", x.done(0), 5);
        x.plan(2, 1);
        x.plan(0, 0);
        due("25: another with both", x.done(0), 13);
        x.plan(1, 0);
        x.plan(0, 0);
        due("25: one of house 1 with the other alone", x.done(1), 4);
        due("25: house 0 as it was", x.done(0), 13);
        x.plan(1, 1);
        x.plan(0, 0);
        due("25: none is up", x.done(1), 4);
        x.plan(0, 0);
        due("25: clouded", x.done(0), 13);
        due("25: what 2", x.done(2), -1);
        due("25: what -1", x.done(-1), -1);
        due("25: nothing changed", x.told(0) + x.told(5) + x.told(6), 1);
        x.pass(1);
        due("25: from now on, with what was seen", x.done(0), 10);
        due("25: from now on, house 1", x.done(1), 10 + 4);
    }

    private static void promise26() {
        StarCustody x = new StarCustody();
        due("26: first", x.book(0, 0), 1);
        due("26: last night", x.book(60, 1), 2);
        due("26: house 2", x.book(61, 2), -1);
        due("26: house -1", x.book(0, -1), -1);
        due("26: n 61", x.book(61, 0), -2);
        due("26: n -2", x.book(-2, 0), -2);
        for (int i = 3; i <= 8; i++) {
            due("26: row " + i, x.book(i, 0), i);
        }
        due("26: full", x.book(0, 0), -4);
        due("26: bad ahead of full", x.book(61, 0), -2);
        due("26: none ahead of full", x.book(0, 2), -1);
        due("26: eight", x.count(4), 8);
        due("26: none then", x.book(-1, 99), 0);
        due("26: none", x.count(4), 0);
        due("26: again", x.book(0, 0), 1);
    }

    private static void promise27() {
        StarCustody x = Check.under("turn 3");
        due("27: without rows", x.looked(), -5);
        x.book(2, 0);
        x.book(3, 1);
        x.book(60, 0);
        due("27: all are so", x.looked(), -5);
        x.book(6, 1);
        x.book(0, 1);
        due("27: the first that is not", x.looked(), 3);
        x.pass(1);
        due("27: from now", x.looked(), 0);
        x.book(-1, 0);
        due("27: without rows again", x.looked(), -5);
        x.book(59, 0);
        x.book(58, 0);
        due("27: again", x.looked(), 1);
    }
}
