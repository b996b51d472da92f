/** Promises 18 to 23: what is noted and what it tells, odds, means. */
public final class NotesAndOddsTest {
    public static void main(String[] args) throws IllegalAccessException {
        Check.run(NotesAndOddsTest.class);
    }

    private static void due(String what, long got, long want) {
        Check.due(what, got, want);
    }

    // ---- 18

    private static StarCustody noted(int notes) {
        StarCustody x = Check.with(0, 0, 5, 0);
        for (int i = 1; i <= notes; i++) {
            due("note " + i, x.note(0, 0, true), i);
        }
        return x;
    }

    static void p18EachNoteTellsHowManyThereAre() {
        StarCustody x = noted(6);
        due("six", x.count(2), 6);
    }

    static void p18ASeventhIsFull() {
        StarCustody x = noted(6);
        due("seventh", x.note(0, 1, false), -4);
        due("six", x.count(2), 6);
        due("it is not noted", x.rounds(0, 0), 30);
        due("full again", x.note(0, 0, true), -4);
    }

    static void p18NoSuchLightIsNone() {
        StarCustody x = noted(0);
        for (int light : new int[] {1, 6, -2, Integer.MIN_VALUE, Integer.MAX_VALUE}) {
            due("light " + light, x.note(light, 0, true), -1);
        }
        due("none is noted", x.count(2), 0);
    }

    static void p18NightsOutside0To60AreBad() {
        StarCustody x = noted(0);
        for (int n : Check.beyond(0, 60)) {
            due("n " + n, x.note(0, n, true), -2);
        }
        due("none is noted", x.count(2), 0);
    }

    static void p18Nights0And60AreTaken() {
        StarCustody x = noted(0);
        due("0", x.note(0, 0, true), 1);
        due("60", x.note(0, 60, true), 2);
    }

    static void p18NoneIsAheadOfBadAndFull() {
        due("bad", noted(0).note(1, 61, true), -1);
        due("full", noted(6).note(1, 0, true), -1);
        due("light -2 is no light", noted(6).note(-2, 61, true), -1);
    }

    static void p18BadIsAheadOfFull() {
        due("61", noted(6).note(0, 61, true), -2);
        due("-1", noted(6).note(0, -1, true), -2);
    }

    static void p18LightMinus1ClearsWhateverTheOthersAre() {
        for (int n : Check.beyond(0, 60)) {
            StarCustody x = noted(6);
            due("n " + n, x.note(-1, n, n > 60), 0);
            due("none", x.count(2), 0);
        }
        due("n 0", noted(3).note(-1, 0, true), 0);
    }

    static void p18LightMinus1ClearsNothingToo() {
        due("no lights", new StarCustody().note(-1, 0, false), 0);
        due("no notes", noted(0).note(-1, 0, false), 0);
    }

    static void p18BehindAClearingTheyComeAnew() {
        StarCustody x = noted(6);
        x.note(0, 1, false);
        x.note(-1, 0, true);
        due("all rounds", x.rounds(0, 0), 30);
        due("the first", x.note(0, 1, true), 1);
        due("the round of 1", x.rounds(0, 0), 1);
    }

    // ---- 19

    static void p19WithoutNotesAll30() {
        StarCustody x = Check.with(0, 0, 5, 2);
        due("how many", x.rounds(0, 0), 30);
        due("the least", x.rounds(0, 1), 1);
    }

    static void p19NoneIsMinus5() {
        StarCustody x = noted(1);
        x.note(0, 0, false);
        due("how many", x.rounds(0, 0), 0);
        due("the least", x.rounds(0, 1), -5);
    }

    static void p19Round1Alone() {
        StarCustody x = Check.with(0, 0, 5, 0);
        x.note(0, 1, true);
        due("how many", x.rounds(0, 0), 1);
        due("the least", x.rounds(0, 1), 1);
    }

    static void p19Round30Alone() {
        StarCustody x = Check.with(0, 0, 5, 0);
        x.note(0, 30, true);
        x.note(0, 15, false);
        x.note(0, 10, false);
        x.note(0, 6, false);
        due("how many", x.rounds(0, 0), 1);
        due("the least", x.rounds(0, 1), 30);
    }

    static void p19ByAPhase() {
        StarCustody x = Check.with(0, 0, 5, 2);
        x.note(0, 10, true);
        due("1, 2, 3, 4, 6, 12", x.rounds(0, 0), 6);
        x.note(0, 1, false);
        due("not 1, 3", x.rounds(0, 0), 4);
        due("the least", x.rounds(0, 1), 2);
    }

    static void p19OfAMoon() {
        StarCustody x = Check.with(1, 0, 5, 2);
        x.note(0, 0, false);
        x.note(0, 1, true);
        due("3 alone", x.rounds(0, 0), 1);
        due("the least", x.rounds(0, 1), 3);
    }

    static void p19AnothersNotesAreAside() {
        StarCustody x = Check.with(0, 0, 5, 2);
        x.light(0, 0, 5, 2);
        x.note(0, 0, true);
        x.note(0, 0, false);
        due("the one", x.rounds(0, 0), 0);
        due("the other", x.rounds(1, 0), 30);
    }

    static void p19FromNowOn() {
        StarCustody x = Check.with(0, 0, 5, 2);
        x.note(0, 10, true);
        x.note(0, 1, false);
        x.pass(1);
        due("13 alone", x.rounds(0, 0), 1);
        due("the least", x.rounds(0, 1), 13);
    }

    static void p19BeyondNight9999() {
        StarCustody x = Check.with(0, 0, 5, 0);
        Check.pass(x, 9999);
        x.note(0, 60, true);
        due("1, 3, 7, 21 divide 10059", x.rounds(0, 0), 4);
        x.note(0, 1, true);
        due("but not 10000", x.rounds(0, 0), 1);
    }

    static void p19NoSuchLightIsNone() {
        StarCustody x = Check.with(0, 0, 5, 2);
        for (int light : Check.beyond(0, 5)) {
            due("light " + light, x.rounds(light, 0), -1);
        }
        due("a light that has not come", x.rounds(1, 1), -1);
    }

    static void p19WhatOutside0And1IsNone() {
        StarCustody x = Check.with(0, 0, 5, 2);
        for (int what : Check.beyond(0, 1)) {
            due("what " + what, x.rounds(0, what), -1);
        }
    }

    static void p19AHiddenOneIsNeverUp() {
        StarCustody x = Check.with(0, 0, 5, 2);
        x.hide(0, true);
        x.note(0, 0, false);
        due("how many", x.rounds(0, 0), 30);
        x.note(0, 1, true);
        due("none", x.rounds(0, 0), 0);
        due("no least", x.rounds(0, 1), -5);
    }

    // ---- 20

    static void p20WithoutNotesAll30() {
        StarCustody x = Check.with(3, 0, 7, 2);
        due("how many", x.phases(0, 0), 30);
        due("the least", x.phases(0, 1), 0);
    }

    static void p20NoneIsMinus5() {
        StarCustody x = Check.with(3, 0, 7, 2);
        x.note(0, 3, true);
        x.note(0, 4, true);
        due("how many", x.phases(0, 0), 0);
        due("the least", x.phases(0, 1), -5);
    }

    static void p20EachMultiple() {
        StarCustody x = Check.with(3, 0, 7, 2);
        x.note(0, 3, true);
        due("4, 11, 18, 25", x.phases(0, 0), 4);
        due("the least", x.phases(0, 1), 4);
    }

    static void p20Phase0Alone() {
        StarCustody x = Check.with(0, 0, 30, 2);
        x.note(0, 0, true);
        due("how many", x.phases(0, 0), 1);
        due("the least", x.phases(0, 1), 0);
    }

    static void p20Phase29Alone() {
        StarCustody x = Check.with(0, 0, 30, 2);
        x.note(0, 1, true);
        due("how many", x.phases(0, 0), 1);
        due("the least", x.phases(0, 1), 29);
    }

    static void p20AnothersNotesAreAside() {
        StarCustody x = Check.with(0, 0, 30, 2);
        x.light(0, 0, 30, 2);
        x.note(0, 1, true);
        due("the other", x.phases(1, 0), 30);
    }

    static void p20FromNowOn() {
        StarCustody x = Check.with(0, 0, 30, 2);
        x.note(0, 1, true);
        x.pass(1);
        due("the least", x.phases(0, 1), 28);
    }

    static void p20BeyondNight9999() {
        StarCustody x = Check.with(0, 0, 30, 2);
        Check.pass(x, 9999);
        x.note(0, 60, true);
        due("10080 is a multiple of 30", x.phases(0, 1), 21);
    }

    static void p20NoSuchLightIsNone() {
        StarCustody x = Check.with(0, 0, 5, 2);
        for (int light : Check.beyond(0, 5)) {
            due("light " + light, x.phases(light, 0), -1);
        }
        due("a light that has not come", x.phases(1, 1), -1);
    }

    static void p20WhatOutside0And1IsNone() {
        StarCustody x = Check.with(0, 0, 5, 2);
        for (int what : Check.beyond(0, 1)) {
            due("what " + what, x.phases(0, what), -1);
        }
    }

    static void p20AHiddenOneIsNeverUp() {
        StarCustody x = Check.with(0, 0, 5, 2);
        x.hide(0, true);
        x.note(0, 0, false);
        due("how many", x.phases(0, 0), 30);
        x.note(0, 1, true);
        due("none", x.phases(0, 0), 0);
        due("no least", x.phases(0, 1), -5);
    }

    // ---- 21

    static void p21WithoutNotesAll10() {
        StarCustody x = Check.with(2, 3, 5, 0);
        due("how many", x.firm(0, 0), 10);
        due("the least", x.firm(0, 1), 0);
    }

    static void p21NoneIsMinus5() {
        StarCustody x = Check.with(2, 3, 5, 0);
        x.note(0, 15, false);
        x.note(0, 5, true);
        due("how many", x.firm(0, 0), 0);
        due("the least", x.firm(0, 1), -5);
    }

    static void p21NightsAreTenTimesVOn() {
        StarCustody x = Check.with(2, 3, 5, 0);
        x.note(0, 30, true);
        due("0 .. 3", x.firm(0, 0), 4);
        x.note(0, 15, false);
        due("2, 3", x.firm(0, 0), 2);
        due("the least", x.firm(0, 1), 2);
    }

    static void p21V0Alone() {
        StarCustody x = Check.with(2, 3, 1, 0);
        x.note(0, 9, true);
        due("how many", x.firm(0, 0), 1);
        due("the least", x.firm(0, 1), 0);
    }

    static void p21V9Alone() {
        StarCustody x = Check.with(2, 3, 1, 0);
        x.pass(60);
        x.note(0, 29, false);
        due("night 89", x.firm(0, 0), 1);
        due("the least", x.firm(0, 1), 9);
        x.note(0, 30, true);
        due("night 90", x.firm(0, 1), 9);
    }

    static void p21Nights60() {
        StarCustody x = Check.with(2, 3, 5, 0);
        x.note(0, 60, false);
        due("7, 8, 9", x.firm(0, 0), 3);
        due("the least", x.firm(0, 1), 7);
    }

    static void p21OfAGuest() {
        StarCustody x = Check.with(5, 3, 1, 0);
        x.note(0, 20, true);
        x.note(0, 19, false);
        due("2 alone", x.firm(0, 0), 1);
        due("the least", x.firm(0, 1), 2);
        x.note(0, 21, true);
        due("a multiple of 7", x.firm(0, 1), -5);
    }

    static void p21OtherKindsAreSoByAnyV() {
        for (int kind : new int[] {0, 1, 3, 4, 6}) {
            StarCustody x = Check.with(kind, 9, 5, 0);
            x.note(0, 5, true);
            due("kind " + kind, x.firm(0, 0), 10);
            x.note(0, 4, true);
            due("or by none, kind " + kind, x.firm(0, 1), -5);
        }
    }

    static void p21AnothersNotesAreAside() {
        StarCustody x = Check.with(2, 3, 5, 0);
        x.light(2, 3, 5, 0);
        x.note(0, 5, true);
        due("the other", x.firm(1, 0), 10);
    }

    static void p21FromNowOn() {
        StarCustody x = Check.with(2, 3, 1, 0);
        x.note(0, 9, true);
        x.pass(1);
        due("0, 1", x.firm(0, 0), 2);
    }

    static void p21BeyondNight9999() {
        StarCustody x = Check.with(2, 9, 1, 0);
        Check.pass(x, 9999);
        x.note(0, 60, true);
        due("all", x.firm(0, 0), 10);
    }

    static void p21NoSuchLightIsNone() {
        StarCustody x = Check.with(2, 0, 5, 2);
        for (int light : Check.beyond(0, 5)) {
            due("light " + light, x.firm(light, 0), -1);
        }
        due("a light that has not come", x.firm(1, 1), -1);
    }

    static void p21WhatOutside0And1IsNone() {
        StarCustody x = Check.with(2, 0, 5, 2);
        for (int what : Check.beyond(0, 1)) {
            due("what " + what, x.firm(0, what), -1);
        }
    }

    static void p21AHiddenOneIsNeverUp() {
        StarCustody x = Check.with(2, 0, 5, 2);
        x.hide(0, true);
        x.note(0, 0, false);
        due("how many", x.firm(0, 0), 10);
        x.note(0, 3, true);
        due("none", x.firm(0, 0), 0);
        due("no least", x.firm(0, 1), -5);
    }

    // ---- 22

    private static void odds(StarCustody x, int house, int n, int q, long above, long below) {
        due("above of " + house + ", " + n + ", " + q, x.odds(house, n, q, 0), above);
        due("below of " + house + ", " + n + ", " + q, x.odds(house, n, q, 1), below);
    }

    private static StarCustody star(String clauses) {
        StarCustody x = Check.under(clauses);
        x.light(0, 0, 1, 0);
        return x;
    }

    static void p22HousesOutside0And1AreNo() {
        StarCustody x = star("turn 1");
        for (int house : Check.beyond(0, 1)) {
            due("house " + house, x.odds(house, 0, 0, 0), Long.MIN_VALUE);
        }
    }

    static void p22NightsOutside0To60AreNo() {
        StarCustody x = star("turn 1");
        for (int n : Check.beyond(0, 60)) {
            due("n " + n, x.odds(0, n, 0, 0), Long.MIN_VALUE);
        }
    }

    static void p22QOutside0To9999IsNo() {
        StarCustody x = star("turn 1");
        for (int q : Check.beyond(0, 9999)) {
            due("q " + q, x.odds(0, 0, q, 0), Long.MIN_VALUE);
        }
    }

    static void p22PartsOutside0And1AreNo() {
        StarCustody x = star("turn 1");
        for (int part : Check.beyond(0, 1)) {
            due("part " + part, x.odds(0, 0, 0, part), Long.MIN_VALUE);
        }
    }

    static void p22CertainIs1Of1() {
        StarCustody x = star("turn 1");
        odds(x, 0, 0, 0, 1, 1);
        odds(x, 1, 60, 0, 1, 1);
        odds(new StarCustody(), 0, 60, 0, 1, 1);
    }

    static void p22NeverIs0Of1() {
        StarCustody x = star("turn 1");
        odds(x, 0, 0, 1, 0, 1);
        odds(x, 0, 60, 9999, 0, 1);
        odds(new StarCustody(), 1, 60, 1, 0, 1);
    }

    static void p22QOrMore() {
        StarCustody x = star("turn 2");
        odds(x, 0, 1, 1, 12, 13);
        odds(x, 0, 1, 5, 12, 13);
        odds(x, 0, 1, 6, 0, 1);
        odds(x, 0, 2, 5, 12, 13);
        odds(x, 0, 2, 6, 11, 13);
        odds(x, 0, 2, 10, 11, 13);
        odds(x, 0, 2, 11, 0, 1);
    }

    static void p22TheHouseSeesInItsTurnsAlone() {
        StarCustody x = star("turn 2");
        odds(x, 1, 2, 1, 0, 1);
        odds(x, 1, 3, 5, 11, 13);
        odds(x, 1, 4, 5, 12, 13);
        odds(x, 1, 4, 10, 9, 13);
        odds(x, 0, 4, 15, 0, 1);
    }

    /** Night 11 is clouded by 1, 2, 3, 4, 6, 12; night 12 by 1 (and would be by 13); night 10 by 1, 11. */
    static void p22CloudsAre0To12() {
        StarCustody x = star("turn 99");
        x.set(0, 0, 30);
        x.set(0, 1, 19);
        due("night 11", x.when(0), 11);
        odds(x, 0, 12, 5, 7, 13);
        odds(x, 0, 11, 5, 0, 1);
        x.set(0, 1, 18);
        odds(x, 0, 13, 5, 12, 13);
        x.set(0, 1, 20);
        odds(x, 0, 11, 5, 11, 13);
    }

    static void p22TheCloudThatHoldsIsAside() {
        StarCustody x = star("cloud 1");
        odds(x, 0, 1, 5, 12, 13);
        StarCustody y = star("cloud 13");
        y.pass(12);
        odds(y, 0, 1, 5, 12, 13);
        due("it still holds", y.told(2), 13);
    }

    static void p22WhatHasBeenSeenIsAside() {
        StarCustody x = star("turn 1");
        x.pass(12);
        due("seen", x.told(6), 30);
        odds(x, 0, 1, 5, 12, 13);
        odds(x, 0, 1, 6, 0, 1);
        x.pass(11);
        odds(x, 1, 1, 1, 6, 13);
    }

    static void p22TheGreatestQ() {
        StarCustody x = Check.under("dear 99 p<9;dear 99 p<9;dear 99 p<9;dear 99 p<9;dear 99 p<9;dear 99 p<9;dear 99 p<9;turn 99");
        for (int i = 0; i < 6; i++) {
            x.light(4, 0, 1, 0);
        }
        odds(x, 0, 1, 8340, 12, 13);
        odds(x, 0, 1, 8341, 0, 1);
        odds(x, 0, 2, 9999, 11, 13);
        Check.pass(x, 2400);
        due("house 0 is held", x.told(6), 9999999);
        odds(x, 0, 2, 9999, 10, 13);
    }

    /** Night 9999 is clouded by what divides 10000, night 10000 by what divides 10001. */
    static void p22BeyondNight9999() {
        StarCustody x = star("turn 1");
        Check.pass(x, 9999);
        odds(x, 1, 1, 5, 7, 13);
        odds(x, 0, 2, 5, 12, 13);
    }

    static void p22HiddenOnesAreNotSeen() {
        StarCustody x = star("turn 1");
        x.hide(0, true);
        odds(x, 0, 60, 1, 0, 1);
    }

    // ---- 23

    private static void mean(StarCustody x, int house, long above, long below) {
        due("above of " + house, x.mean(house, 0), above);
        due("below of " + house, x.mean(house, 1), below);
    }

    static void p23HousesOutside0And1AreNo() {
        StarCustody x = star("turn 1");
        for (int house : Check.beyond(0, 1)) {
            due("house " + house, x.mean(house, 0), Long.MIN_VALUE);
        }
    }

    static void p23PartsOutside0And1AreNo() {
        StarCustody x = star("turn 1");
        for (int part : Check.beyond(0, 1)) {
            due("part " + part, x.mean(0, part), Long.MIN_VALUE);
        }
    }

    static void p23NothingIs0Of1() {
        mean(new StarCustody(), 0, 0, 1);
        mean(star("cloud 1"), 1, 0, 1);
        mean(star("dim 9 p=0"), 0, 0, 1);
    }

    static void p23AWholeIsOf1() {
        mean(star("turn 1"), 0, 5, 1);
        mean(star("turn 1"), 1, 5, 1);
    }

    static void p23LowestTerms() {
        StarCustody x = star("dear 2 h=1&n=0");
        mean(x, 0, 5, 1);
        mean(x, 1, 73, 14);
        x.set(0, 0, 28);
        mean(x, 0, 5, 28);
        mean(x, 1, 1, 4);
        x.set(0, 0, 14);
        mean(x, 0, 5, 14);
        x.set(0, 0, 7);
        mean(x, 0, 5, 7);
        x.set(0, 0, 4);
        mean(x, 0, 5, 4);
    }

    static void p23Night27FromNowCountsAnd28DoesNot() {
        StarCustody x = star("turn 1");
        x.set(0, 0, 30);
        x.set(0, 1, 3);
        due("night 27", x.when(0), 27);
        mean(x, 0, 5, 28);
        x.set(0, 1, 2);
        due("night 28", x.when(0), 28);
        mean(x, 0, 0, 1);
        x.pass(1);
        mean(x, 0, 5, 28);
    }

    static void p23ThisNightCounts() {
        StarCustody x = star("turn 1");
        x.set(0, 0, 30);
        mean(x, 0, 5, 28);
        x.pass(1);
        mean(x, 0, 0, 1);
    }

    static void p23CloudedNightsHaveNothing() {
        mean(star("cloud 7"), 0, 30, 7);
        mean(star("cloud 2"), 1, 5, 2);
    }

    static void p23TurnsAreAside() {
        StarCustody x = star("turn 99");
        mean(x, 1, 5, 1);
        mean(x, 0, 5, 1);
    }

    static void p23BeyondNight9999() {
        StarCustody x = star("dear 9 m=0");
        x.set(0, 0, 7);
        Check.pass(x, 9999);
        due("night 10003", x.when(0), 4);
        mean(x, 0, 2, 1);
    }
}
