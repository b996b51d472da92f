/** Promises 1 to 3: a new object, the tape, skies. */
public final class SkiesTest {
    public static void main(String[] args) throws IllegalAccessException {
        Check.run(SkiesTest.class);
    }

    private static void due(String what, long got, long want) {
        Check.due(what, got, want);
    }

    // ---- the face, and how long an object is used

    static void p00TheConstantsAreAsTold() {
        due("NONE", StarCustody.NONE, -1);
        due("BAD", StarCustody.BAD, -2);
        due("STATE", StarCustody.STATE, -3);
        due("FULL", StarCustody.FULL, -4);
        due("NO", StarCustody.NO, Long.MIN_VALUE);
    }

    static void p00The512thCallIsAnswered() {
        StarCustody x = new StarCustody();
        x.light(4, 0, 1, 0);
        x.image();
        for (int call = 3; call <= 509; call++) {
            due("act, call " + call, x.act(0, 2, call), (call - 1) * 3 * 2 + 6);
        }
        due("call 510", x.count(6), 7);
        due("call 511", x.undo(), 1);
        due("call 512", x.pass(60), 60);
    }

    // ---- 1

    static void p01ANewObjectHasNothing() {
        StarCustody x = new StarCustody();
        for (int what = 0; what <= 6; what++) {
            due("count " + what, x.count(what), 0);
        }
    }

    static void p01NoLights() {
        StarCustody x = new StarCustody();
        due("of", x.of(0, 0), -1);
        due("up", x.told(5), 0);
        due("when", x.when(0), -1);
    }

    static void p01NoSky() {
        StarCustody x = new StarCustody();
        due("turn", x.told(1), 1);
        due("cloud", x.told(2), 0);
        due("clouded", x.told(4), 0);
        x.light(0, 0, 1, 0);
        due("base", x.base(0, 0, 0), 0);
    }

    static void p01NightAndSeenAre0() {
        StarCustody x = new StarCustody();
        due("night", x.told(0), 0);
        due("whose turn", x.told(3), 0);
        due("seen by house 0", x.told(6), 0);
        due("seen by house 1", x.told(7), 0);
        due("has for house 0", x.told(8), 0);
        due("has for house 1", x.told(9), 0);
    }

    static void p01NoImageAndNoTrace() {
        StarCustody x = new StarCustody();
        due("undo", x.undo(), -3);
        due("trace", x.trace(0), -1);
    }

    static void p01WithoutLightsAllQuestionsAreAnswered() {
        StarCustody x = new StarCustody();
        for (int what = 0; what <= 2; what++) {
            due("on " + what, x.on(60, what), 0);
            due("fullest " + what, x.deal(9, 0, what), 0);
            due("even " + what, x.deal(9, 1, what), 0);
        }
        due("shares nobody envies", x.shares(0), 0);
        due("greatest shares", x.shares(1), 0);
        due("odds of 0", x.odds(0, 60, 0, 0), 1);
        due("odds of 1", x.odds(1, 60, 1, 0), 0);
        due("mean, above", x.mean(1, 0), 0);
        due("mean, below", x.mean(1, 1), 1);
        due("done", x.done(0) + x.done(1), 0);
        due("looked", x.looked(), -5);
    }

    static void p01TwoObjectsAreApart() {
        StarCustody x = new StarCustody();
        StarCustody y = new StarCustody();
        x.light(0, 0, 1, 0);
        x.feed('t');
        x.pass(3);
        x.image();
        due("lights", y.count(0), 0);
        due("tape", y.count(5), 0);
        due("night", y.told(0), 0);
        due("image", y.undo(), -3);
    }

    // ---- 2

    static void p02SignsBelow0AreBad() {
        StarCustody x = new StarCustody();
        due("-1", x.feed(-1), -2);
        due("the least int", x.feed(Integer.MIN_VALUE), -2);
        due("-256 and a t", x.feed('t' - 256), -2);
    }

    static void p02SignsAbove127AreBad() {
        StarCustody x = new StarCustody();
        due("128", x.feed(128), -2);
        due("the greatest int", x.feed(Integer.MAX_VALUE), -2);
        due("256 and a t", x.feed('t' + 256), -2);
    }

    static void p02All128SignsAreTaken() {
        StarCustody x = new StarCustody();
        for (int sign = 0; sign < 100; sign++) {
            due("sign " + sign, x.feed(sign), sign + 1);
        }
        x.sky();
        for (int sign = 100; sign <= 127; sign++) {
            due("sign " + sign, x.feed(sign), sign - 99);
        }
    }

    static void p02ATapeOf100IsFull() {
        StarCustody x = new StarCustody();
        for (int i = 1; i <= 100; i++) {
            due("sign " + i, x.feed('t'), i);
        }
        due("sign 101", x.feed('t'), -4);
        due("still 100", x.count(5), 100);
    }

    static void p02BadIsAheadOfFull() {
        StarCustody x = new StarCustody();
        for (int i = 1; i <= 100; i++) {
            x.feed('t');
        }
        due("too large", x.feed(128), -2);
        due("too small", x.feed(-1), -2);
    }

    static void p02ABadSignIsNotOnTheTape() {
        StarCustody x = new StarCustody();
        Check.feed(x, "turn ");
        x.feed('1' + 128);
        x.feed('1' - 256);
        due("5 signs", x.count(5), 5);
        due("the next is the sixth", x.feed('7'), 6);
        due("sky", x.sky(), 0);
        due("turn", x.told(1), 7);
    }

    static void p02ASignToAFullTapeIsNotOnIt() {
        StarCustody x = new StarCustody();
        Check.feed(x, "dear 10 p=10" + "|p=1".repeat(22));
        due("full", x.feed('x'), -4);
        due("sky", x.sky(), 0);
    }

    static void p02BehindASkyTheTapeBeginsAnew() {
        StarCustody x = new StarCustody();
        due("sky", Check.sky(x, "turn 2"), 0);
        due("behind a sky", x.feed('t'), 1);
        due("fault", x.sky(), -11);
        due("behind a fault", x.feed('t'), 1);
    }

    // ---- 3: faults

    private static void fault(String text, int place) {
        StarCustody x = new StarCustody();
        due(text, Check.sky(x, text), -10 - place);
        due("the tape is empty behind " + text, x.count(5), 0);
        due("no sky by " + text, x.count(1), 0);
    }

    private static void isSky(String text) {
        StarCustody x = new StarCustody();
        due(text, Check.sky(x, text), 0);
        due("the tape is empty behind " + text, x.count(5), 0);
        due("a sky by " + text, x.count(1), 1);
    }

    static void p03AnEmptyTapeFaultsAt0() {
        fault("", 0);
    }

    static void p03TheFirstSignMayFault() {
        for (String sign : new String[] {"x", " ", ";", "T", "1", "(", "!", "p", "" + (char) 0, "" + (char) 127}) {
            fault(sign, 0);
            fault(sign + "turn 1", 0);
        }
    }

    static void p03AWordCutShortFaultsAtTheSize() {
        for (String word : new String[] {"turn", "cloud", "dear", "dim"}) {
            for (int size = 1; size <= word.length(); size++) {
                fault(word.substring(0, size), size);
                fault(word.substring(0, size) + ";", size);
            }
        }
    }

    static void p03AnotherWordFaultsWhereItIsAnother() {
        fault("tern 1", 1);
        fault("turm 1", 3);
        fault("crowd 1", 1);
        fault("dx", 1);
        fault("deer 1 p=1", 2);
        fault("din 1 p=1", 2);
        fault("turns 1", 4);
        fault("clouds 1", 5);
        fault("dears 1 p=1", 4);
        fault("dims 1 p=1", 3);
        fault("tURN 1", 1);
    }

    static void p03NoBlankFaults() {
        fault("turn1", 4);
        fault("cloud1", 5);
        fault("dear1 p=1", 4);
        fault("dim1 p=1", 3);
        fault("dear 1p=1", 6);
        fault("dim 12p=1", 6);
    }

    static void p03TwoBlanksFaultAtTheSecond() {
        fault("turn  1", 5);
        fault("cloud  1", 6);
        fault("dear  1 p=1", 5);
        fault("dim  1 p=1", 4);
        fault("dear 1  p=1", 7);
        fault("dim 1  p=1", 6);
    }

    static void p03ABlankElsewhereFaults() {
        fault(" turn 1", 0);
        fault("turn 1 ", 6);
        fault("turn 1 ;turn 1", 6);
        fault("turn 1; turn 1", 7);
        fault("turn 1 2", 6);
        fault("dear 1 p =1", 8);
        fault("dear 1 p= 1", 9);
        fault("dear 1 p=1 ", 10);
        fault("dear 1 p=1 |p=1", 10);
        fault("dear 1 p=1| p=1", 11);
        fault("dear 1 ! p=1", 8);
        fault("dear 1 ( p=1)", 8);
        fault("dear 1 (p=1 )", 11);
    }

    static void p03NoNumberFaults() {
        fault("turn ", 5);
        fault("turn x", 5);
        fault("turn ;", 5);
        fault("turn -1", 5);
        fault("turn /", 5);
        fault("turn :", 5);
        fault("cloud ", 6);
        fault("cloud p", 6);
        fault("dear ", 5);
        fault("dear p=1", 5);
        fault("dim ", 4);
        fault("dear 1 p=", 9);
        fault("dear 1 p=p", 9);
        fault("dear 1 p=;", 9);
    }

    static void p03NumbersOf1And2DigitsAreRead() {
        for (String n : new String[] {"0", "1", "9", "10", "11", "90", "99"}) {
            isSky("turn " + n);
            isSky("cloud " + n);
            isSky("dear " + n + " p=1");
            isSky("dim " + n + " p=1");
            isSky("dear 1 p=" + n);
        }
    }

    static void p03AThirdDigitFaults() {
        fault("turn 123", 7);
        fault("turn 100", 7);
        fault("cloud 123", 8);
        fault("dear 123 p=1", 7);
        fault("dim 123 p=1", 6);
        fault("dear 1 p=123", 11);
    }

    static void p03ADigitBehindA0Faults() {
        fault("turn 00", 6);
        fault("turn 01", 6);
        fault("turn 001", 6);
        fault("cloud 09", 7);
        fault("dear 05 p=1", 6);
        fault("dim 00 p=1", 5);
        fault("dear 1 p=05", 10);
    }

    static void p03TurnAndCloudTakeNoE() {
        fault("turn 1 p=1", 6);
        fault("cloud 1 p=1", 7);
        fault("turn 1|", 6);
        fault("cloud 9&", 7);
    }

    static void p03DearAndDimNeedAnE() {
        fault("dear 1", 6);
        fault("dear 1;", 6);
        fault("dear 1 ", 7);
        fault("dear 1 ;", 7);
        fault("dim 1", 5);
        fault("dim 1;turn 1", 5);
        fault("dim 1 ", 6);
    }

    static void p03ATestNeedsALetterASignAndANumber() {
        fault("dear 1 q=1", 7);
        fault("dear 1 P=1", 7);
        fault("dear 1 =1", 7);
        fault("dear 1 1", 7);
        fault("dear 1 p", 8);
        fault("dear 1 p1", 8);
        fault("dear 1 p!1", 8);
        fault("dear 1 pk=1", 8);
        fault("dear 1 p;", 8);
        fault("dear 1 p==1", 9);
        fault("dear 1 p<=1", 9);
    }

    static void p03AllTestsAreRead() {
        for (char letter : "pkvhnm".toCharArray()) {
            for (char sign : "<=>".toCharArray()) {
                isSky("dear 1 " + letter + sign + "1");
            }
        }
        for (char letter = 0; letter < 128; letter++) {
            if ("pkvhnm!(".indexOf(letter) < 0) {
                fault("dear 1 " + letter, 7);
            }
        }
        for (char sign = 0; sign < 128; sign++) {
            if ("<=>".indexOf(sign) < 0) {
                fault("dim 1 m" + sign, 7);
            }
        }
    }

    static void p03AnOrAndAnAndStandBetweenTwo() {
        isSky("dear 1 p=1|k<2&v>3|h=4&n=5|m=6");
        fault("dear 1 |p=1", 7);
        fault("dear 1 &p=1", 7);
        fault("dear 1 p=1|", 11);
        fault("dear 1 p=1&", 11);
        fault("dear 1 p=1||p=1", 11);
        fault("dear 1 p=1&&p=1", 11);
        fault("dear 1 p=1|&p=1", 11);
        fault("dear 1 p=1|;", 11);
        fault("dear 1 (p=1|)", 12);
        fault("dear 1 p=10|", 12);
        fault("dear 1 p=1p=1", 10);
    }

    static void p03ABracketMustEnd() {
        isSky("dear 1 (p=1)");
        isSky("dear 1 ((p=1)|(p=1))&(p=1)");
        fault("dear 1 (p=1", 11);
        fault("dear 1 (p=1;", 11);
        fault("dear 1 ((p=1)", 13);
        fault("dear 1 (", 8);
        fault("dear 1 ()", 8);
        fault("dear 1 p=1)", 10);
        fault("dear 1 )", 7);
        fault("dear 1 (p=1))", 12);
        fault("dear 1 (p=1)p=1", 12);
        fault("dear 1 (p=1)(p=1)", 12);
        fault("dear 1 (p=1)!p=1", 12);
    }

    static void p03ANotNeedsAnF() {
        isSky("dear 1 !p=1");
        isSky("dear 1 !(p=1)");
        fault("dear 1 !", 8);
        fault("dear 1 !;", 8);
        fault("dear 1 !)", 8);
        fault("dear 1 !|p=1", 8);
        fault("dear 1 !&p=1", 8);
        fault("dear 1 p=1!", 10);
        fault("dear 1 p!=1", 8);
    }

    static void p03FiveOpenAreRead() {
        isSky("dear 1 !!!!!p=1");
        isSky("dear 1 (((((p=1)))))");
        isSky("dim 1 !(!(!p=1))");
        isSky("dim 1 (!(!(p=1)))");
    }

    static void p03TheSixthOpenFaults() {
        fault("dear 1 !!!!!!p=1", 12);
        fault("dear 1 ((((((p=1))))))", 12);
        fault("dear 1 !!!!!(p=1)", 12);
        fault("dear 1 (((((!p=1)))))", 12);
        fault("dear 1 !(!(!(p=1)))", 12);
        fault("dim 1 (!(!(!p=1)))", 11);
        fault("dear 1 (((((p=1|(", 16);
        fault("dear 1 (((((p=1&!", 16);
    }

    static void p03ANotIsOpenTillItsFEnds() {
        isSky("dear 1 !!!!!p=1&!!!!!p=1|!!!!!p=1");
        isSky("dear 1 (!!!!p=1&!!!!p=1|!!!!p=1)");
        fault("dear 1 (!!!!p=1&!!!!!p=1)", 20);
        fault("dear 1 !(!!!p=1|!!!!p=1)", 19);
    }

    static void p03ABracketIsOpenTillItsEnd() {
        isSky("dear 1 (((((p=1)))))&(((((p=1)))))");
        isSky("dear 1 ((((p=1))))|!((((p=1))))");
        isSky("dear 1 ((((p=1))&(((p=1)))))");
        fault("dear 1 ((((p=1))&((((p=1))))))", 20);
        isSky("dear 1 !!!!!p=1;dim 1 !!!!!p=1");
    }

    static void p03TenClausesAreRead() {
        isSky("turn 1" + ";turn 1".repeat(9));
        isSky("dim 1 p=1" + ";dim 1 p=1".repeat(9));
    }

    static void p03AnEleventhClauseFaultsAheadOfIt() {
        fault("turn 1" + ";turn 1".repeat(10), 69);
        fault("turn 1" + ";turn 1".repeat(9) + ";", 69);
    }

    static void p03AClauseIsDueBehindEachSemicolon() {
        fault(";turn 1", 0);
        fault("turn 1;", 7);
        fault("turn 1;;turn 1", 7);
        fault("turn 1;x", 7);
        fault("turn 1" + ";turn 1".repeat(8) + ";", 63);
        fault("dear 1 p=1;", 11);
    }

    static void p03ASignBehindAClauseFaults() {
        fault("turn 1x", 6);
        fault("turn 1:", 6);
        fault("turn 1" + (char) 0, 6);
        fault("turn 1" + (char) 127, 6);
        fault("turn 1turn 1", 6);
        fault("dear 1 p=1,turn 1", 10);
        fault("dear 1 p=1" + (char) 0, 10);
    }

    static void p03TheFirstOfTwoFaultsIsTold() {
        fault("turn x;turn y", 5);
        fault("dear 1 p=1;dear 1 p=x;dear 1 p=y", 20);
        fault("turn 05;cloud 05", 6);
    }

    static void p03ATapeOf100SignsIsRead() {
        isSky("dear 10 p=10" + "|p=1".repeat(22));
        isSky("dear 1 p=1" + ";dim 1 p=1".repeat(9));
    }

    static void p03ATapeOf100SignsFaultsAtItsLast() {
        fault("dear 10 p=10" + "|p=1".repeat(21) + "|p=x", 99);
    }

    static void p03ATapeOf100SignsThatEndsTooEarlyFaultsAt100() {
        fault("dear 1 p=1" + "|p=1".repeat(22) + "|p", 100);
        fault("dear 1 p=1" + ";dim 1 p=1".repeat(8) + "|p=1|p=11;", 100);
    }

    // ---- 3: which holds

    static void p03WithAFaultTheOneThatHeldHolds() {
        StarCustody x = Check.under("turn 3;cloud 4;dear 5 p=0");
        x.light(0, 0, 1, 0);
        due("fault", Check.sky(x, "turn 5;cloud 6;dear 7 p=0;dim 8 p"), -43);
        due("turn", x.told(1), 3);
        due("cloud", x.told(2), 4);
        due("base", x.base(0, 0, 0), 5);
    }

    static void p03WithAFaultAndNoSkyThereIsNone() {
        StarCustody x = new StarCustody();
        x.light(0, 0, 1, 0);
        due("fault", Check.sky(x, "turn 5;cloud 6;dear 7 p=0;"), -36);
        due("turn", x.told(1), 1);
        due("cloud", x.told(2), 0);
        due("base", x.base(0, 0, 0), 0);
    }

    static void p03AFaultTakesNoNumber() {
        StarCustody x = new StarCustody();
        due("first", Check.sky(x, "turn 1"), 0);
        due("fault", Check.sky(x, "turn"), -14);
        due("second", Check.sky(x, "turn 1"), 1);
    }

    static void p03TheNewestHoldsAlone() {
        StarCustody x = Check.under("turn 3;cloud 4;dear 5 p=0;dim 1 h=1");
        x.light(0, 0, 1, 0);
        due("second", Check.sky(x, "dear 2 p=0"), 1);
        due("turn", x.told(1), 1);
        due("cloud", x.told(2), 0);
        due("base for house 0", x.base(0, 0, 0), 2);
        due("base for house 1", x.base(0, 1, 0), 2);
        due("third", Check.sky(x, "cloud 3"), 2);
        due("no base", x.base(0, 1, 0), 0);
    }

    private static StarCustody fiveSkies() {
        StarCustody x = new StarCustody();
        for (int i = 0; i < 5; i++) {
            due("sky " + i, Check.sky(x, "turn " + (i + 2)), i);
        }
        return x;
    }

    static void p03SkiesAreNumberedFrom0To4() {
        StarCustody x = fiveSkies();
        due("five", x.count(1), 5);
        due("the fifth holds", x.told(1), 6);
    }

    static void p03ASixthSkyIsFull() {
        StarCustody x = fiveSkies();
        due("sixth", Check.sky(x, "turn 9"), -4);
        due("five", x.count(1), 5);
        due("the fifth holds", x.told(1), 6);
    }

    static void p03FullIsAheadOfAFault() {
        StarCustody x = fiveSkies();
        due("an empty tape", x.sky(), -4);
        x.feed('x');
        due("a fault", x.sky(), -4);
    }

    static void p03WhenFullTheTapeStays() {
        StarCustody x = fiveSkies();
        Check.feed(x, "turn 9");
        due("full", x.sky(), -4);
        due("6 signs", x.count(5), 6);
        due("full again", x.sky(), -4);
        due("the next is the seventh", x.feed('9'), 7);
    }
}
