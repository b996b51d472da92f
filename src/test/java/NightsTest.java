/** Promises 11 to 15: what is told, nights that go, nights to come. */
public final class NightsTest {
    public static void main(String[] args) throws IllegalAccessException {
        Check.run(NightsTest.class);
    }

    private static void due(String what, long got, long want) {
        Check.due(what, got, want);
    }

    // ---- 11

    static void p11NightByNight() {
        StarCustody x = Check.under("turn 3;cloud 4;dear 2 h=1");
        x.light(0, 0, 2, 0);
        x.light(1, 0, 4, 3);
        x.light(6, 5, 1, 0);
        int[] turns = {0, 0, 0, 1, 1, 1, 0};
        int[] clouded = {0, 0, 0, 1, 0, 0, 0};
        int[] ups = {5, 6, 7, 4, 5, 6, 7};
        int[] toZero = {10, 7, 12, 0, 10, 7, 12};
        int[] toOne = {14, 11, 18, 0, 14, 11, 18};
        for (int night = 0; night < 7; night++) {
            due("night " + night, x.told(0), night);
            due("turn", x.told(1), 3);
            due("cloud", x.told(2), 4);
            due("whose on " + night, x.told(3), turns[night]);
            due("clouded on " + night, x.told(4), clouded[night]);
            due("up on " + night, x.told(5), ups[night]);
            due("has 0 on " + night, x.told(8), toZero[night]);
            due("has 1 on " + night, x.told(9), toOne[night]);
            x.pass(1);
        }
        due("seen by house 0", x.told(6), 10 + 7 + 12 + 12);
        due("seen by house 1", x.told(7), 14 + 11);
    }

    static void p11WhatOutside0To9IsNone() {
        StarCustody x = new StarCustody();
        for (int what : Check.beyond(0, 9)) {
            due("what " + what, x.told(what), -1);
        }
    }

    private static int told(String clauses, int what, int night) {
        StarCustody x = Check.under(clauses);
        Check.pass(x, night);
        return x.told(what);
    }

    static void p11TurnIs1WithoutOne() {
        due("no sky", new StarCustody().told(1), 1);
        due("a sky without", told("cloud 4", 1, 0), 1);
    }

    static void p11TurnIs1IfItIs0() {
        due("0", told("turn 0", 1, 0), 1);
        due("0 is the last", told("turn 4;turn 0", 1, 0), 1);
        due("night 1 goes by 1", told("turn 0", 3, 1), 1);
    }

    static void p11TurnIsTheLastOfSeveral() {
        due("of three", told("turn 7;turn 2;turn 9", 1, 0), 9);
        due("of a 0 and another", told("turn 0;cloud 1;turn 99", 1, 0), 99);
    }

    static void p11CloudIs0WithoutOne() {
        due("no sky", new StarCustody().told(2), 0);
        due("a sky without", told("turn 4", 2, 0), 0);
    }

    static void p11CloudIsTheLastOfSeveral() {
        due("of two", told("cloud 7;cloud 99", 2, 0), 99);
        due("0 is the last", told("cloud 7;turn 1;cloud 0", 2, 0), 0);
        due("0 is not the last", told("cloud 0;cloud 3", 2, 0), 3);
    }

    private static void whose(String clauses, String turns) {
        StarCustody x = Check.under(clauses);
        for (int night = 0; night < turns.length(); night++) {
            due(clauses + " on night " + night, x.told(3), turns.charAt(night) - '0');
            x.pass(1);
        }
    }

    static void p11NightByTurnIsCut() {
        whose("turn 1", "010101");
        whose("turn 2", "0011001100");
        whose("turn 3", "000111000111");
        due("turn 99, night 98", told("turn 99", 3, 98), 0);
        due("turn 99, night 99", told("turn 99", 3, 99), 1);
        due("turn 99, night 197", told("turn 99", 3, 197), 1);
        due("turn 99, night 198", told("turn 99", 3, 198), 0);
    }

    private static void clouds(String clauses, String nights) {
        StarCustody x = Check.under(clauses);
        x.light(0, 0, 1, 0);
        for (int night = 0; night < nights.length(); night++) {
            int is = nights.charAt(night) - '0';
            due(clauses + " on night " + night, x.told(4), is);
            due(clauses + " has for house 0 on night " + night, x.told(8), is == 1 ? 0 : 5);
            due(clauses + " has for house 1 on night " + night, x.told(9), is == 1 ? 0 : 5);
            x.pass(1);
        }
    }

    static void p11Cloud0IsOnNoNight() {
        clouds("cloud 0", "000000");
        clouds("turn 1", "000000");
    }

    static void p11Cloud1IsOnAllNights() {
        clouds("cloud 1", "111111");
    }

    static void p11ACloudIsOnTheLastOfItsNights() {
        clouds("cloud 2", "01010101");
        clouds("cloud 3", "00100100");
        due("cloud 99, night 97", told("cloud 99", 4, 97), 0);
        due("cloud 99, night 98", told("cloud 99", 4, 98), 1);
        due("cloud 99, night 99", told("cloud 99", 4, 99), 0);
    }

    static void p11WhichAreUpStandInBits() {
        StarCustody x = new StarCustody();
        due("no lights", x.told(5), 0);
        for (int i = 0; i < 6; i++) {
            x.light(0, 0, 2, i % 2);
        }
        due("even ones", x.told(5), 1 + 4 + 16);
        x.pass(1);
        due("odd ones", x.told(5), 2 + 8 + 32);
    }

    static void p11CloudsHideNoLight() {
        StarCustody x = Check.under("cloud 1");
        x.light(0, 0, 1, 0);
        due("up", x.told(5), 1);
        due("has for house 0", x.told(8), 0);
        due("has for house 1", x.told(9), 0);
    }

    static void p11WhatANightHasIsOfThoseUpAlone() {
        StarCustody x = new StarCustody();
        x.light(0, 0, 2, 0);
        x.light(3, 8, 2, 1);
        x.light(1, 0, 1, 0);
        x.hide(2, true);
        due("night 0", x.told(8), 5);
        x.pass(1);
        due("night 1", x.told(8), 8);
        x.hide(2, false);
        due("with the moon", x.told(8), 10);
    }

    static void p11WhatANightHasIsForBothWhoseTurnItIsAside() {
        StarCustody x = Check.under("dear 2 h=1");
        x.light(0, 0, 1, 0);
        due("house 0", x.told(8), 5);
        due("house 1", x.told(9), 7);
        x.pass(1);
        due("house 0, in the other's turn", x.told(8), 5);
        due("house 1, in its turn", x.told(9), 7);
    }

    // ---- 12

    static void p12NightsOutside0To60AreBad() {
        StarCustody x = new StarCustody();
        for (int n : Check.beyond(0, 60)) {
            due("n " + n, x.pass(n), -2);
        }
        due("none went", x.told(0), 0);
    }

    static void p12Nights0And60Go() {
        StarCustody x = new StarCustody();
        due("0", x.pass(0), 0);
        due("60", x.pass(60), 60);
        due("0 again", x.pass(0), 60);
        due("60 more", x.pass(60), 120);
    }

    static void p12TheHouseWhoseTurnItIsSees() {
        StarCustody x = Check.under("turn 2;dear 2 h=1");
        x.light(0, 0, 1, 0);
        int[][] seen = {{5, 0}, {10, 0}, {10, 7}, {10, 14}, {15, 14}};
        for (int night = 0; night < seen.length; night++) {
            x.pass(1);
            due("house 0 behind night " + night, x.told(6), seen[night][0]);
            due("house 1 behind night " + night, x.told(7), seen[night][1]);
        }
    }

    static void p12AClouded0IsSeen() {
        StarCustody x = Check.under("cloud 1");
        x.light(0, 0, 1, 0);
        x.pass(60);
        due("house 0", x.told(6), 0);
        due("house 1", x.told(7), 0);
    }

    private static StarCustody onNight(int night) {
        StarCustody x = Check.with(0, 0, 1, 0);
        Check.pass(x, night);
        due("night", x.told(0), night);
        return x;
    }

    static void p12Night9999IsReached() {
        StarCustody x = onNight(9939);
        due("9999", x.pass(60), 9999);
        due("0 more", x.pass(0), 9999);
    }

    static void p12Above9999IsState() {
        StarCustody x = onNight(9940);
        due("60 of 59", x.pass(60), -3);
        due("59 of 59", x.pass(59), 9999);
        due("1 of 0", x.pass(1), -3);
        due("60 of 0", x.pass(60), -3);
    }

    static void p12AStateLetsNoNightGo() {
        StarCustody x = onNight(9998);
        int zero = x.told(6);
        int one = x.told(7);
        due("2 of 1", x.pass(2), -3);
        due("night", x.told(0), 9998);
        due("house 0", x.told(6), zero);
        due("house 1", x.told(7), one);
    }

    static void p12BadIsAheadOfState() {
        StarCustody x = onNight(9999);
        due("61", x.pass(61), -2);
        due("-1", x.pass(-1), -2);
        due("the greatest int", x.pass(Integer.MAX_VALUE), -2);
    }

    /** Each night has 8340 for each house. */
    private static StarCustody rich(String more) {
        StarCustody x = Check.under("dear 99 p<9;dear 99 p<9;dear 99 p<9;dear 99 p<9;dear 99 p<9;dear 99 p<9;dear 99 p<9" + more);
        for (int i = 0; i < 6; i++) {
            x.light(4, 0, 1, 0);
        }
        due("has", x.told(8), 6 * 2 * (2 + 7 * 99));
        return x;
    }

    static void p12SeenIsHeldAt9999999() {
        StarCustody x = rich(";turn 99");
        Check.pass(x, 1199 + 1188);
        due("1199 nights of house 0 are below it", x.told(6), 1199 * 8340);
        x.pass(1);
        due("1200 are above it", x.told(6), 9999999);
        due("house 1 is not there yet", x.told(7), 1188 * 8340);
        Check.pass(x, 200);
        due("house 0 stays there", x.told(6), 9999999);
        due("house 1 is there", x.told(7), 9999999);
    }

    // ---- 13

    static void p13WhatOutside0To2IsNone() {
        StarCustody x = new StarCustody();
        for (int what : Check.beyond(0, 2)) {
            due("what " + what, x.on(0, what), -1);
        }
    }

    static void p13NightsOutside0To60AreBad() {
        StarCustody x = new StarCustody();
        for (int n : Check.beyond(0, 60)) {
            for (int what = 0; what <= 2; what++) {
                due("n " + n + ", what " + what, x.on(n, what), -2);
            }
        }
    }

    static void p13NoneIsAheadOfBad() {
        StarCustody x = new StarCustody();
        due("both", x.on(61, 3), -1);
        due("both, below", x.on(-1, -1), -1);
    }

    static void p13ANightOnIsANightOn() {
        StarCustody x = Check.under("turn 2;cloud 4;dear 1 h=1");
        x.light(0, 0, 1, 0);
        x.light(0, 0, 3, 0);
        due("1 night", x.on(1, 0), 10);
        due("4 nights, house 0", x.on(4, 0), 15);
        due("4 nights, house 1", x.on(4, 1), 6);
        due("6 nights, house 0", x.on(6, 0), 25);
        due("up then", x.on(5, 2), 1);
        due("up on a clouded night", x.on(3, 2), 2);
    }

    static void p13Nights0IsAsItIs() {
        StarCustody x = Check.under("dear 1 h=1");
        x.light(0, 0, 1, 0);
        x.light(0, 0, 2, 0);
        due("up on night 0", x.on(0, 2), 2);
        due("house 0 at first", x.on(0, 0), 0);
        x.pass(5);
        due("house 0", x.on(0, 0), 10 + 10 + 10);
        due("house 1", x.on(0, 1), 6 + 6);
        due("up on night 5", x.on(0, 2), 1);
    }

    static void p13Nights60AreAsTheyGo() {
        StarCustody x = Check.under("turn 2;cloud 4;dear 1 h=1&n>5");
        x.light(1, 0, 7, 2);
        x.light(5, 2, 3, 0);
        int zero = x.on(60, 0);
        int one = x.on(60, 1);
        int up = x.on(60, 2);
        x.pass(60);
        due("house 0", x.told(6), zero);
        due("house 1", x.told(7), one);
        due("up", Integer.bitCount(x.told(5)), up);
    }

    static void p13FromNowOnWithWhatWasSeen() {
        StarCustody x = Check.with(0, 0, 3, 0);
        x.pass(4);
        due("house 1 has seen night 3", x.on(0, 1), 5);
        due("night 6 is the third from now", x.on(2, 0), 5);
        due("and is seen behind it", x.on(3, 0), 10);
        due("up on night 6", x.on(2, 2), 1);
        due("none up on night 7", x.on(3, 2), 0);
    }

    static void p13BeyondNight9999() {
        StarCustody x = Check.under("turn 2;cloud 4;dear 1 h=1");
        x.light(0, 0, 1, 0);
        Check.pass(x, 9999);
        due("night 9999 is clouded, house 1", x.on(1, 1) - x.told(7), 0);
        due("nights 10000 and 10001, house 0", x.on(3, 0) - x.told(6), 10);
        due("night 10003 is clouded, house 1", x.on(5, 1) - x.told(7), 6);
        due("60 nights", x.on(60, 0) - x.told(6), 30 * 5);
        due("up", x.on(60, 2), 1);
    }

    static void p13WhatIsSeenIsNotHeld() {
        StarCustody x = rich("");
        Check.pass(x, 2400);
        due("held", x.told(6), 9999999);
        due("house 0", x.on(60, 0), 9999999 + 30 * 8340);
        due("house 1", x.on(1, 1), 9999999);
        due("house 1, a night on", x.on(2, 1), 9999999 + 8340);
    }

    // ---- 14

    static void p14NoSuchLightIsNone() {
        StarCustody x = Check.with(0, 0, 1, 0);
        for (int light : Check.beyond(0, 5)) {
            due("light " + light, x.when(light), -1);
        }
        due("a light that has not come", x.when(1), -1);
    }

    static void p14ThisNightIs0() {
        StarCustody x = Check.with(0, 0, 7, 0);
        due("night 0", x.when(0), 0);
        x.pass(7);
        due("night 7", x.when(0), 0);
    }

    static void p14TheNightBehindOneUpIsARoundAwayLess1() {
        StarCustody x = Check.with(0, 0, 7, 3);
        due("night 0", x.when(0), 4);
        x.pass(5);
        due("night 5", x.when(0), 6);
    }

    static void p14AHiddenOneIsNever() {
        StarCustody x = Check.with(0, 0, 1, 0);
        x.hide(0, true);
        due("hidden", x.when(0), -5);
        x.hide(0, false);
        due("shown", x.when(0), 0);
    }

    static void p14AGuestOnMultiplesOf7IsNever() {
        for (int round = 7; round <= 28; round += 7) {
            StarCustody x = Check.with(5, 0, round, 14);
            due("round " + round, x.when(0), -5);
            x.set(0, 1, 13);
            due("round " + round + ", another phase", x.when(0), round == 7 ? 1 : round == 14 ? 1 : round - 13);
        }
    }

    static void p14TheFarthestByOneAlone() {
        due("a comet of v 9", Check.with(2, 9, 30, 1).when(0), 119);
        due("a comet of v 9 on its first night", Check.with(2, 9, 30, 0).when(0), 90);
        due("a guest of v 9", Check.with(5, 9, 30, 14).when(0), 106);
        due("a guest of v 9 behind a multiple of 7", Check.with(5, 9, 30, 1).when(0), 149);
    }

    static void p14EachKindWaits() {
        due("star", Check.with(0, 9, 30, 1).when(0), 29);
        due("moon", Check.with(1, 9, 30, 15).when(0), 15);
        due("moon of an odd round", Check.with(1, 9, 29, 14).when(0), 15);
        due("nebula", Check.with(3, 9, 30, 29).when(0), 1);
        due("twin", Check.with(4, 9, 30, 15).when(0), 15);
        due("guest", Check.with(5, 0, 1, 0).when(0), 1);
        due("told", Check.with(6, 9, 30, 2).when(0), 28);
    }

    static void p14CloudsAreAside() {
        StarCustody x = Check.under("cloud 1");
        x.light(0, 0, 5, 3);
        due("clouded", x.when(0), 2);
    }

    static void p14BeyondNight9999() {
        StarCustody x = Check.with(0, 0, 30, 0);
        Check.pass(x, 9999);
        due("night 10020", x.when(0), 21);
    }

    // ---- 15

    private static StarCustody two(int oneRound, int onePhase, int otherRound, int otherPhase) {
        StarCustody x = new StarCustody();
        x.light(0, 0, oneRound, onePhase);
        x.light(0, 0, otherRound, otherPhase);
        return x;
    }

    static void p15NoSuchLightIsNone() {
        StarCustody x = two(1, 0, 1, 0);
        for (int light : Check.beyond(0, 5)) {
            due("one " + light, x.meet(light, 0), -1);
            due("other " + light, x.meet(0, light), -1);
        }
        due("a light that has not come", x.meet(0, 2), -1);
    }

    static void p15OneThatIsBothIsBad() {
        StarCustody x = two(1, 0, 1, 0);
        due("0", x.meet(0, 0), -2);
        due("1", x.meet(1, 1), -2);
        x.hide(1, true);
        due("hidden", x.meet(1, 1), -2);
    }

    static void p15NoneIsAheadOfBad() {
        StarCustody x = two(1, 0, 1, 0);
        due("2", x.meet(2, 2), -1);
        due("-1", x.meet(-1, -1), -1);
    }

    static void p15ThisNightIs0() {
        due("both", two(7, 0, 9, 0).meet(0, 1), 0);
        due("one alone", two(7, 0, 9, 8).meet(0, 1), 28);
    }

    static void p15EitherWayRound() {
        StarCustody x = two(30, 29, 29, 28);
        due("one way", x.meet(0, 1), 1);
        due("the other way", x.meet(1, 0), 1);
    }

    static void p15NeverTogether() {
        due("even and odd", two(2, 0, 2, 1).meet(0, 1), -5);
        due("rounds of 30", two(30, 0, 30, 29).meet(0, 1), -5);
    }

    static void p15HiddenOnesAreNeverTogether() {
        StarCustody x = two(1, 0, 1, 0);
        x.hide(0, true);
        due("one", x.meet(0, 1), -5);
        due("other", x.meet(1, 0), -5);
    }

    static void p15FarOnes() {
        due("840", two(30, 0, 29, 1).meet(0, 1), 840);
        due("869", two(30, 1, 29, 1).meet(0, 1), 869);
    }

    /** By rounds 30 and 29 both are up once in 870 nights; a comet of v 9 comes from night 90 on. */
    private static StarCustody farthest(int cometsPhase, int starsPhase) {
        StarCustody x = new StarCustody();
        x.light(2, 9, 30, cometsPhase);
        x.light(0, 0, 29, starsPhase);
        return x;
    }

    static void p15Night900IsNotTooFar() {
        due("870", farthest(0, 0).meet(0, 1), 870);
        due("30 is too early, 900 is not too far", farthest(0, 28).meet(0, 1), 900);
    }

    static void p15Night901IsTooFar() {
        StarCustody x = farthest(29, 27);
        due("31 is too early, 901 too far", x.meet(0, 1), -5);
        x.pass(1);
        due("a night later it is 900", x.meet(0, 1), 900);
    }

    static void p15Night930IsTooFar() {
        due("60 is too early, 930 too far", farthest(0, 27).meet(0, 1), -5);
    }

    static void p15CloudsAreAside() {
        StarCustody x = Check.under("cloud 1");
        x.light(0, 0, 3, 1);
        x.light(0, 0, 2, 0);
        due("clouded", x.meet(0, 1), 2);
    }

    static void p15BeyondNight9999() {
        StarCustody x = two(30, 0, 29, 0);
        Check.pass(x, 9999);
        due("night 10440", x.meet(0, 1), 441);
    }
}
