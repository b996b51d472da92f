/** Promises 16 and 17: deals of nights, shares of lights. */
public final class SharesTest {
    public static void main(String[] args) throws IllegalAccessException {
        Check.run(SharesTest.class);
    }

    private static void due(String what, long got, long want) {
        Check.due(what, got, want);
    }

    private static StarCustody under(String clauses, int lights) {
        StarCustody x = Check.under(clauses);
        for (int i = 0; i < lights; i++) {
            x.light(0, 0, 1, 0);
        }
        return x;
    }

    // ---- 16

    private static void deal(StarCustody x, int n, int how, int bits, int zero, int one) {
        String what = "deal of " + n + (how == 0 ? ", fullest" : ", even");
        due(what + ", which", x.deal(n, how, 0), bits);
        due(what + ", house 0", x.deal(n, how, 1), zero);
        due(what + ", house 1", x.deal(n, how, 2), one);
    }

    private static StarCustody dealt() {
        return under("dear 4 h=1&n=1;dear 1 h=0&n=2;dear 2 h=1&n=4", 1);
    }

    static void p16FullestAndEven() {
        StarCustody x = dealt();
        deal(x, 5, 0, 18, 16, 16);
        deal(x, 5, 1, 18, 16, 16);
        deal(x, 4, 0, 2, 16, 9);
        deal(x, 4, 1, 3, 11, 14);
        deal(x, 2, 1, 2, 5, 9);
    }

    static void p16HowOutside0And1IsNone() {
        StarCustody x = dealt();
        for (int how : Check.beyond(0, 1)) {
            due("how " + how, x.deal(1, how, 0), -1);
        }
    }

    static void p16WhatOutside0To2IsNone() {
        StarCustody x = dealt();
        for (int what : Check.beyond(0, 2)) {
            due("fullest, what " + what, x.deal(1, 0, what), -1);
            due("even, what " + what, x.deal(1, 1, what), -1);
        }
    }

    static void p16NightsOutside1To9AreBad() {
        StarCustody x = dealt();
        for (int n : Check.beyond(1, 9)) {
            due("fullest of " + n, x.deal(n, 0, 0), -2);
            due("even of " + n, x.deal(n, 1, 2), -2);
        }
    }

    static void p16NoneIsAheadOfBad() {
        StarCustody x = dealt();
        due("how", x.deal(0, 2, 0), -1);
        due("what", x.deal(10, 0, 3), -1);
    }

    static void p16OneNight() {
        StarCustody x = dealt();
        deal(x, 1, 0, 0, 5, 0);
        deal(x, 1, 1, 0, 5, 0);
        x.pass(1);
        deal(x, 1, 0, 1, 0, 9);
        deal(x, 1, 1, 1, 0, 9);
    }

    static void p16NineNights() {
        StarCustody x = under("dear 1 h=1&n=8", 1);
        deal(x, 9, 0, 256, 40, 6);
        deal(x, 9, 1, 263, 25, 21);
        StarCustody y = under("dear 1 h=1", 1);
        deal(y, 9, 0, 511, 0, 54);
    }

    static void p16TheNightBehindTheLastIsAside() {
        StarCustody x = under("dear 9 h=1&n=2", 1);
        deal(x, 2, 0, 0, 10, 0);
        deal(x, 3, 0, 4, 10, 14);
    }

    static void p16OfSeveralFullestTheLeast() {
        StarCustody x = under("dear 0 p=0", 1);
        deal(x, 9, 0, 0, 45, 0);
        deal(x, 1, 0, 0, 5, 0);
    }

    static void p16OfSeveralEvenOnesTheLeast() {
        StarCustody x = under("dear 0 p=0", 1);
        deal(x, 9, 1, 15, 25, 20);
        deal(x, 2, 1, 1, 5, 5);
        deal(x, 1, 1, 0, 5, 0);
    }

    static void p16EvenGoesByTheLesserFirst() {
        StarCustody x = under("dear 9 h=1", 1);
        deal(x, 4, 0, 15, 0, 56);
        deal(x, 4, 1, 1, 15, 14);
        deal(x, 5, 1, 3, 15, 28);
    }

    static void p16OfTheSameLesserByBothTogether() {
        deal(under("dim 2 h=1&n=0", 1), 3, 1, 2, 10, 5);
        deal(under("turn 9;dear 3 n=0", 1), 3, 1, 1, 10, 8);
        deal(under("dear 4 h=1", 1), 1, 1, 1, 0, 9);
    }

    static void p16NightsWorthNothingGoToHouse0() {
        deal(new StarCustody(), 9, 0, 0, 0, 0);
        deal(new StarCustody(), 9, 1, 0, 0, 0);
        StarCustody x = under("dim 9 p=0", 1);
        deal(x, 9, 0, 0, 0, 0);
        deal(x, 9, 1, 0, 0, 0);
    }

    static void p16CloudedNightsAreWorthNothing() {
        StarCustody x = under("cloud 2;dear 1 h=1", 1);
        deal(x, 4, 0, 5, 0, 12);
        deal(x, 4, 1, 1, 5, 6);
        StarCustody y = under("cloud 1", 1);
        deal(y, 9, 0, 0, 0, 0);
        deal(y, 9, 1, 0, 0, 0);
    }

    static void p16WhoseTurnItIsIsAside() {
        deal(under("turn 9", 1), 2, 1, 1, 5, 5);
        deal(under("turn 9;dear 1 h=1", 1), 3, 0, 7, 0, 18);
    }

    static void p16WhatHasBeenSeenIsAside() {
        StarCustody x = under("turn 9", 1);
        x.pass(5);
        deal(x, 2, 1, 1, 5, 5);
        deal(x, 1, 0, 0, 5, 0);
    }

    static void p16FromThisNightOn() {
        StarCustody x = dealt();
        x.pass(1);
        deal(x, 4, 0, 9, 11, 16);
    }

    static void p16BeyondNight9999() {
        StarCustody x = under("dear 3 h=1&n=7", 1);
        Check.pass(x, 9999);
        deal(x, 9, 0, 256, 40, 8);
        deal(x, 8, 0, 0, 40, 0);
    }

    // ---- 17

    private static void shares(StarCustody x, int noEnvy, int greatest) {
        due("nobody envies", x.shares(0), noEnvy);
        due("greatest", x.shares(1), greatest);
    }

    static void p17WhatOutside0And1IsNone() {
        StarCustody x = under("turn 1", 1);
        for (int what : Check.beyond(0, 1)) {
            due("what " + what, x.shares(what), -1);
        }
    }

    static void p17NoLights() {
        shares(new StarCustody(), 0, 0);
    }

    static void p17OneLightIsEnvied() {
        shares(under("dear 9 h=1", 1), -5, 1);
        shares(under("turn 1", 1), -5, 0);
    }

    static void p17OneLightWorthNothingToBothIsNot() {
        shares(under("dim 9 p=0", 1), 0, 0);
    }

    static void p17OneLightWorthNothingToHouse0() {
        shares(under("dim 9 h=0", 1), 1, 1);
    }

    static void p17TwoAlike() {
        shares(under("turn 1", 2), 1, 0);
    }

    static void p17Three() {
        StarCustody x = under("dear 9 h=1&p=0;dear 1 h=0&p=1", 0);
        x.light(0, 0, 7, 0);
        x.light(0, 0, 7, 0);
        shares(x, 1, 1);
        x.light(0, 0, 14, 0);
        shares(x, 1, 1);
    }

    static void p17OfSeveralTheLeast() {
        shares(under("turn 1", 6), 7, 0);
        shares(under("dear 1 h=0&p=0;dear 1 h=1&p=1", 2), 2, 2);
    }

    static void p17GreatestGivesAllSixToHouse1() {
        shares(under("dim 9 h=0", 6), 7, 63);
        shares(under("dear 1 h=1", 6), 7, 63);
    }

    static void p17AsMuchIsNotRather() {
        StarCustody x = under("turn 1", 0);
        x.light(0, 0, 2, 0);
        x.light(0, 0, 4, 0);
        x.light(0, 0, 4, 2);
        shares(x, 1, 0);
    }

    static void p17AHairMoreIsRather() {
        StarCustody x = under("turn 1", 0);
        x.light(0, 0, 28, 0);
        x.light(3, 5, 28, 0);
        shares(x, 1, 0);
        StarCustody y = under("turn 1", 0);
        y.light(0, 0, 28, 0);
        y.light(3, 6, 28, 0);
        shares(y, -5, 0);
    }

    static void p17EachHouseGoesByWhatItHasItself() {
        shares(under("dear 9 h=1;dear 4 h=0&p=0", 2), 2, 3);
        shares(under("dear 9 h=0;dear 4 h=1&p=1", 2), 2, 0);
    }

    static void p17Night27FromNowCounts() {
        StarCustody x = under("turn 1", 0);
        x.light(0, 0, 30, 3);
        x.light(0, 0, 30, 0);
        due("first comes on night 27", x.when(0), 27);
        shares(x, 1, 0);
    }

    static void p17Night28FromNowDoesNot() {
        StarCustody x = under("turn 1", 0);
        x.light(0, 0, 30, 2);
        x.light(0, 0, 30, 0);
        due("first comes on night 28", x.when(0), 28);
        shares(x, -5, 0);
        x.pass(1);
        due("now the other comes on night 29", x.when(1), 29);
        shares(x, -5, 0);
    }

    static void p17ThisNightCounts() {
        StarCustody x = under("dear 9 h=1", 0);
        x.light(0, 0, 30, 0);
        shares(x, -5, 1);
        x.pass(1);
        shares(x, 0, 0);
    }

    static void p17TurnsAreAside() {
        StarCustody x = under("turn 28", 0);
        x.light(0, 0, 2, 0);
        x.light(0, 0, 2, 1);
        shares(x, 1, 0);
        shares(under("turn 99;dear 1 h=1", 1), -5, 1);
    }

    static void p17CloudedNightsAreAside() {
        StarCustody x = under("turn 9;cloud 2", 0);
        x.light(0, 0, 2, 0);
        x.light(0, 0, 2, 1);
        shares(x, 1, 0);
        due("a mean is halved by clouds", x.mean(0, 1), 2);
    }

    static void p17AllNightsCloudedAreAside() {
        StarCustody x = under("cloud 1;dear 9 h=1&p=1", 2);
        shares(x, 2, 2);
        due("they have nothing", x.told(8) + x.told(9), 0);
    }

    static void p17TheRarestCloudIsAside() {
        StarCustody x = under("cloud 99;dear 1 h=0&p=0", 0);
        x.light(0, 0, 30, 22);
        x.light(0, 0, 30, 21);
        Check.pass(x, 97);
        due("light 0 comes on the clouded night", x.when(0), 1);
        due("light 1 on the next", x.when(1), 2);
        shares(x, 2, 0);
    }

    static void p17HiddenOnesAreWorthNothing() {
        StarCustody x = under("cloud 1;dear 9 h=1&p=1", 2);
        x.hide(1, true);
        shares(x, -5, 0);
        x.hide(0, true);
        shares(x, 0, 0);
    }

    static void p17ACometThatComesLater() {
        StarCustody x = under("turn 1", 0);
        x.light(0, 0, 28, 0);
        x.light(0, 0, 28, 1);
        x.light(2, 3, 1, 0);
        shares(x, 1, 0);
        x.pass(2);
        due("it comes on night 28 from now", x.when(2), 28);
        shares(x, 1, 0);
        x.pass(1);
        due("it comes on night 27 from now", x.when(2), 27);
        due("two of three alike go to one", x.shares(0), -5);
    }

    static void p17BeyondNight9999() {
        StarCustody x = under("turn 1", 0);
        x.light(0, 0, 30, 24);
        x.light(0, 0, 30, 23);
        Check.pass(x, 9999);
        due("first comes on night 10026", x.when(0), 27);
        due("second comes on night 10027", x.when(1), 28);
        shares(x, -5, 0);
    }
}
