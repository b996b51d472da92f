/** Promises 24 to 27: plans row by row, turns told by hand. */
public final class PlansAndBooksTest {
    public static void main(String[] args) throws IllegalAccessException {
        Check.run(PlansAndBooksTest.class);
    }

    private static void due(String what, long got, long want) {
        Check.due(what, got, want);
    }

    // ---- 24

    private static StarCustody planned(int rows) {
        StarCustody x = Check.with(0, 0, 1, 0);
        for (int i = 1; i <= rows; i++) {
            due("row " + i, x.plan(0, 0), i);
        }
        return x;
    }

    static void p24EachRowTellsHowManyThereAre() {
        StarCustody x = planned(0);
        due("a night", x.plan(0, 0), 1);
        due("hide", x.plan(1, 0), 2);
        due("show", x.plan(2, 0), 3);
        due("three", x.count(3), 3);
    }

    static void p24ANinthIsFull() {
        StarCustody x = planned(8);
        due("a night", x.plan(0, 0), -4);
        due("hide", x.plan(1, 0), -4);
        due("show", x.plan(2, 0), -4);
        due("eight", x.count(3), 8);
        due("it is not in the plan", x.done(0) + x.done(1), 8 * 5);
    }

    static void p24WhatOutside0To2IsNone() {
        StarCustody x = planned(0);
        for (int what : new int[] {3, -2, 65536, -256, Integer.MIN_VALUE, Integer.MAX_VALUE}) {
            due("what " + what, x.plan(what, 0), -1);
        }
        due("no row", x.count(3), 0);
    }

    static void p24NoSuchLightIsNone() {
        StarCustody x = planned(0);
        for (int light : Check.beyond(0, 5)) {
            due("hide " + light, x.plan(1, light), -1);
            due("show " + light, x.plan(2, light), -1);
        }
        due("a light that has not come", x.plan(1, 1), -1);
        due("no row", x.count(3), 0);
    }

    static void p24ANightLooksAtNoLight() {
        StarCustody x = new StarCustody();
        int rows = 0;
        for (int light : Check.beyond(0, 5)) {
            rows++;
            due("light " + light, x.plan(0, light), rows);
        }
        due("they go", x.done(0), 0);
    }

    static void p24NoneIsAheadOfFull() {
        StarCustody x = planned(8);
        due("what 3", x.plan(3, 0), -1);
        due("what -2", x.plan(-2, 0), -1);
        due("light 1", x.plan(1, 1), -1);
        due("light -1", x.plan(2, -1), -1);
    }

    static void p24AFullOneLooksAtNoLightByANight() {
        due("light 99", planned(8).plan(0, 99), -4);
    }

    static void p24WhatMinus1ClearsWhateverTheOtherIs() {
        for (int light : Check.beyond(0, 5)) {
            StarCustody x = planned(8);
            due("light " + light, x.plan(-1, light), 0);
            due("none", x.count(3), 0);
        }
        due("light 0", planned(3).plan(-1, 0), 0);
    }

    static void p24WhatMinus1ClearsNothingToo() {
        due("no rows", new StarCustody().plan(-1, 0), 0);
    }

    static void p24BehindAClearingTheyComeAnew() {
        StarCustody x = planned(8);
        x.plan(-1, 0);
        due("nothing is done", x.done(0) + x.done(1), 0);
        due("the first", x.plan(0, 0), 1);
        due("one night is done", x.done(0), 5);
    }

    // ---- 25

    static void p25WhatOutside0And1IsNone() {
        StarCustody x = planned(1);
        for (int what : Check.beyond(0, 1)) {
            due("what " + what, x.done(what), -1);
        }
    }

    static void p25WithoutRowsItIsWhatWasSeen() {
        StarCustody x = planned(0);
        due("house 0 at first", x.done(0), 0);
        x.pass(3);
        due("house 0", x.done(0), 10);
        due("house 1", x.done(1), 5);
    }

    static void p25EachNightGoes() {
        StarCustody x = planned(8);
        due("house 0 of eight", x.done(0), 20);
        due("house 1 of eight", x.done(1), 20);
        due("house 0 of one", planned(1).done(0), 5);
        due("house 1 of one", planned(1).done(1), 0);
    }

    static void p25OneIsHiddenFromItsRowOn() {
        StarCustody x = Check.under("turn 2;cloud 5;dear 1 h=1");
        x.light(0, 0, 1, 0);
        x.light(3, 3, 1, 0);
        x.hide(1, true);
        x.plan(0, 0);
        due("a night", x.done(0), 5);
        x.plan(2, 1);
        x.plan(0, 0);
        due("another with both", x.done(0), 13);
        x.plan(1, 0);
        x.plan(0, 0);
        due("one of house 1 with the other alone", x.done(1), 4);
        due("house 0 as it was", x.done(0), 13);
        x.plan(1, 1);
        x.plan(0, 0);
        due("none is up", x.done(1), 4);
        x.plan(0, 0);
        due("clouded", x.done(0), 13);
    }

    static void p25RowsWithoutNightsSeeNothing() {
        StarCustody x = planned(0);
        for (int i = 0; i < 4; i++) {
            x.plan(1, 0);
            x.plan(2, 0);
        }
        due("house 0", x.done(0), 0);
        due("house 1", x.done(1), 0);
    }

    static void p25HiddenTwiceIsHidden() {
        StarCustody x = planned(0);
        x.plan(1, 0);
        x.plan(1, 0);
        x.plan(0, 0);
        due("hidden", x.done(0), 0);
        x.plan(2, 0);
        x.plan(0, 0);
        x.plan(0, 0);
        due("shown", x.done(1), 5);
        due("and in house 0's turn", x.done(0), 5);
    }

    static void p25TheLightItselfIsNotHidden() {
        StarCustody x = planned(0);
        x.plan(1, 0);
        x.plan(0, 0);
        x.done(0);
        due("hidden", x.of(0, 4), 0);
        due("up", x.of(0, 5), 1);
        due("done again", x.done(0), 0);
    }

    static void p25FromNowOnWithWhatWasSeen() {
        StarCustody x = planned(3);
        due("house 0", x.done(0), 10);
        x.pass(1);
        due("house 0, a night on", x.done(0), 10);
        due("house 1, a night on", x.done(1), 10);
    }

    static void p25BeyondNight9999() {
        StarCustody x = planned(3);
        Check.pass(x, 9999);
        due("nights 9999 and 10001", x.done(1) - x.told(7), 10);
        due("night 10000", x.done(0) - x.told(6), 5);
    }

    static void p25WhatIsSeenIsNotHeld() {
        StarCustody x = Check.under("dear 99 p<9;dear 99 p<9;dear 99 p<9;dear 99 p<9;dear 99 p<9;dear 99 p<9;dear 99 p<9");
        for (int i = 0; i < 6; i++) {
            x.light(4, 0, 1, 0);
        }
        Check.pass(x, 2400);
        due("held", x.told(6), 9999999);
        x.plan(0, 0);
        x.plan(0, 0);
        due("house 0", x.done(0), 9999999 + 8340);
        due("house 1", x.done(1), 9999999 + 8340);
    }

    // ---- 26

    private static StarCustody booked(int rows) {
        StarCustody x = new StarCustody();
        for (int i = 1; i <= rows; i++) {
            due("row " + i, x.book(0, 0), i);
        }
        return x;
    }

    static void p26EachRowTellsHowManyThereAre() {
        due("eight", booked(8).count(4), 8);
    }

    static void p26ANinthIsFull() {
        StarCustody x = booked(8);
        due("ninth", x.book(0, 1), -4);
        due("eight", x.count(4), 8);
        due("it is not looked at", x.looked(), -5);
    }

    static void p26HousesOutside0And1AreNone() {
        StarCustody x = booked(0);
        for (int house : Check.beyond(0, 1)) {
            due("house " + house, x.book(0, house), -1);
        }
        due("no row", x.count(4), 0);
    }

    static void p26NightsOutside0To60AreBad() {
        StarCustody x = booked(0);
        for (int n : new int[] {61, -2, 65536, -256, Integer.MIN_VALUE, Integer.MAX_VALUE}) {
            due("n " + n, x.book(n, 0), -2);
        }
        due("no row", x.count(4), 0);
    }

    static void p26Nights0And60AreTaken() {
        StarCustody x = booked(0);
        due("0", x.book(0, 1), 1);
        due("60", x.book(60, 0), 2);
    }

    static void p26NoneIsAheadOfBadAndFull() {
        due("bad", booked(0).book(61, 2), -1);
        due("bad, -2", booked(0).book(-2, -1), -1);
        due("full", booked(8).book(0, 2), -1);
    }

    static void p26BadIsAheadOfFull() {
        due("61", booked(8).book(61, 0), -2);
        due("-2", booked(8).book(-2, 0), -2);
    }

    static void p26NMinus1ClearsWhateverTheOtherIs() {
        for (int house : Check.beyond(0, 1)) {
            StarCustody x = booked(8);
            due("house " + house, x.book(-1, house), 0);
            due("none", x.count(4), 0);
        }
        due("house 0", booked(3).book(-1, 0), 0);
    }

    static void p26NMinus1ClearsNothingToo() {
        due("no rows", booked(0).book(-1, 1), 0);
    }

    static void p26BehindAClearingTheyComeAnew() {
        StarCustody x = booked(8);
        x.book(-1, 0);
        due("the first", x.book(0, 1), 1);
        due("is looked at", x.looked(), 0);
    }

    // ---- 27

    static void p27WithoutRowsIsMinus5() {
        due("no rows", booked(0).looked(), -5);
    }

    static void p27AllSoIsMinus5() {
        StarCustody x = Check.under("turn 3");
        x.book(2, 0);
        x.book(3, 1);
        x.book(60, 0);
        due("all are so", x.looked(), -5);
        due("eight are so", booked(8).looked(), -5);
    }

    static void p27TheFirstOfSeveral() {
        StarCustody x = Check.under("turn 3");
        x.book(2, 0);
        x.book(6, 1);
        x.book(0, 1);
        due("the second", x.looked(), 1);
    }

    static void p27TheFirstRowIs0AndTheLast7() {
        StarCustody x = booked(7);
        x.book(0, 1);
        due("the last", x.looked(), 7);
        StarCustody y = new StarCustody();
        y.book(1, 0);
        due("the first", y.looked(), 0);
    }

    static void p27NightsAreFromNow() {
        StarCustody x = Check.under("turn 3");
        x.book(2, 0);
        due("night 2", x.looked(), -5);
        x.pass(1);
        due("night 3", x.looked(), 0);
        x.pass(3);
        due("night 6", x.looked(), -5);
    }

    static void p27TheTurnThatHoldsNow() {
        StarCustody x = booked(0);
        x.book(60, 1);
        due("turn 1", x.looked(), 0);
        due("sky", Check.sky(x, "turn 60"), 0);
        due("turn 60", x.looked(), -5);
        due("sky", Check.sky(x, "turn 61"), 1);
        due("turn 61", x.looked(), 0);
    }

    static void p27BeyondNight9999() {
        StarCustody x = booked(0);
        Check.pass(x, 9999);
        x.book(0, 1);
        x.book(1, 0);
        x.book(60, 1);
        due("all are so", x.looked(), -5);
        x.book(60, 0);
        due("night 10059", x.looked(), 3);
    }
}
