import java.util.ArrayList;
import java.util.List;

/** Terms 2 and 3: what is asked changes nothing, nor does what is refused, neither with room left nor when all is full. */
public final class ChangesNothingTest {
    private interface Call {
        long on(StarCustody x);
    }

    public static void main(String[] args) throws IllegalAccessException {
        Check.run(ChangesNothingTest.class);
    }

    // ---- two objects made alike, of which one alone is called; each stays below its 512th call

    private static StarCustody roomy() {
        StarCustody x = Check.under("turn 3;cloud 4;dear 6 k=1|h=1;dim 4 n>5");
        x.light(0, 1, 5, 2);
        x.light(1, 6, 9, 3);
        x.light(6, 4, 3, 0);
        x.light(5, 0, 2, 1);
        x.row(2, 1, 6);
        x.note(0, 3, true);
        x.plan(0, 0);
        x.book(4, 1);
        x.pass(5);
        x.image();
        x.set(1, 0, 8);
        x.hide(3, true);
        x.row(2, 3, 2);
        x.pass(8);
        x.note(1, 2, false);
        x.plan(2, 3);
        x.plan(0, 0);
        x.book(7, 0);
        x.act(2, 2, 5);
        Check.feed(x, "cloud 9;turn");
        return x;
    }

    private static StarCustody full() {
        StarCustody x = new StarCustody();
        for (int kind = 1; kind <= 6; kind++) {
            x.light(kind, kind % 3, kind + 1, kind);
        }
        for (int i = 0; i < 5; i++) {
            Check.due("sky", Check.sky(x, "cloud " + (9 - i)), i);
        }
        x.hide(4, true);
        x.image();
        for (int i = 0; i < 8; i++) {
            x.note(i % 6, i, i % 2 == 0);
            x.plan(i % 3, i % 6);
            x.book(i, i % 2);
        }
        for (int i = 0; i < 100; i++) {
            x.feed('t');
        }
        x.act(3, 2, 5);
        return x;
    }

    /** All that can be asked; in the end what the tape and the image hold. */
    private static List<Long> all(StarCustody x) {
        List<Long> answers = new ArrayList<>();
        for (int i = -1; i <= 10; i++) {
            answers.add((long) x.told(i));
            answers.add((long) x.count(i));
            answers.add((long) x.trace(i));
        }
        for (int light = 0; light < 6; light++) {
            for (int what = 0; what <= 5; what++) {
                answers.add((long) x.of(light, what));
            }
            for (int n = 0; n < 4; n++) {
                answers.add((long) x.worth(light, 0, n));
            }
            answers.add((long) x.base(light, 1, 0));
            answers.add((long) x.rounds(light, 0));
            answers.add((long) x.phases(light, 0));
            answers.add((long) x.firm(light, 0));
        }
        for (int house = 0; house <= 1; house++) {
            answers.add((long) x.on(17, house));
            answers.add((long) x.done(house));
            answers.add(x.mean(house, 0));
        }
        answers.add((long) x.looked());
        int skies = x.count(1);
        int isRead = x.sky();
        answers.add((long) isRead);
        answers.add((long) x.undo());
        for (int i = 0; i <= 9; i++) {
            answers.add((long) x.told(i));
            answers.add((long) x.count(i));
        }
        Check.due("skies to be read", isRead == -4 ? 5 : 1, skies);
        return answers;
    }

    private static void nothing(String what, StarCustody called, StarCustody other, long got, long want) {
        Check.due(what, got, want);
        List<Long> is = all(called);
        List<Long> due = all(other);
        for (int i = 0; i < due.size(); i++) {
            Check.due("number " + i + " behind " + what, is.get(i), due.get(i));
        }
    }

    private static void refused(String what, long want, Call call) {
        StarCustody x = roomy();
        nothing(what, x, roomy(), call.on(x), want);
    }

    private static void refusedByFull(String what, long want, Call call) {
        StarCustody x = full();
        nothing(what + ", full", x, full(), call.on(x), want);
    }

    private static void asked(String what, Call call) {
        StarCustody x = roomy();
        long first = call.on(x);
        nothing(what + " a second time", x, roomy(), call.on(x), first);
        StarCustody y = full();
        first = call.on(y);
        nothing(what + " a second time, full", y, full(), call.on(y), first);
    }

    // ---- refused

    static void p02RefusedSigns() {
        refused("feed(128)", -2, x -> x.feed(128));
        refused("feed(-1)", -2, x -> x.feed(-1));
        refusedByFull("feed(128)", -2, x -> x.feed(128));
        refusedByFull("feed(116)", -4, x -> x.feed('t'));
    }

    static void p03ARefusedSky() {
        refusedByFull("sky()", -4, x -> x.sky());
    }

    static void p04RefusedLights() {
        refused("light(7, 0, 1, 0)", -1, x -> x.light(7, 0, 1, 0));
        refused("light(0, 10, 1, 0)", -2, x -> x.light(0, 10, 1, 0));
        refused("light(0, 0, 31, 0)", -2, x -> x.light(0, 0, 31, 0));
        refused("light(0, 0, 1, 30)", -2, x -> x.light(0, 0, 1, 30));
        refusedByFull("light(0, 0, 1, 0)", -4, x -> x.light(0, 0, 1, 0));
    }

    static void p08RefusedRows() {
        refused("row(4, 0, 5)", -1, x -> x.row(4, 0, 5));
        refused("row(2, 4, 5)", -1, x -> x.row(2, 4, 5));
        refused("row(1, -1, 5)", -1, x -> x.row(1, -1, 5));
        refused("row(2, 0, 10)", -2, x -> x.row(2, 0, 10));
        refused("row(2, 0, -1)", -2, x -> x.row(2, 0, -1));
        refused("row(1, 0, 5)", -3, x -> x.row(1, 0, 5));
    }

    static void p09RefusedSets() {
        refused("set(4, 0, 5)", -1, x -> x.set(4, 0, 5));
        refused("set(0, 2, 5)", -1, x -> x.set(0, 2, 5));
        refused("set(0, 0, 31)", -2, x -> x.set(0, 0, 31));
        refused("set(0, 0, 0)", -2, x -> x.set(0, 0, 0));
        refused("set(0, 1, 30)", -2, x -> x.set(0, 1, 30));
        refused("set(0, 1, -1)", -2, x -> x.set(0, 1, -1));
    }

    static void p10RefusedHides() {
        refused("hide(4, true)", -1, x -> x.hide(4, true));
        refused("hide(-1, false)", -1, x -> x.hide(-1, false));
        refused("hide(35, false)", -1, x -> x.hide(35, false));
        refusedByFull("hide(6, true)", -1, x -> x.hide(6, true));
    }

    static void p12RefusedNights() {
        refused("pass(61)", -2, x -> x.pass(61));
        refused("pass(-1)", -2, x -> x.pass(-1));
    }

    static void p12NightsBeyond9999() {
        StarCustody x = roomy();
        StarCustody y = roomy();
        Check.pass(x, 9999 - 13 - 30);
        Check.pass(y, 9999 - 13 - 30);
        nothing("pass(31)", x, y, x.pass(31), -3);
    }

    static void p18RefusedNotes() {
        refused("note(4, 0, true)", -1, x -> x.note(4, 0, true));
        refused("note(-2, 0, true)", -1, x -> x.note(-2, 0, true));
        refused("note(0, 61, true)", -2, x -> x.note(0, 61, true));
        refused("note(0, -1, true)", -2, x -> x.note(0, -1, true));
        refusedByFull("note(0, 0, true)", -4, x -> x.note(0, 0, true));
        refusedByFull("note(0, 1, false)", -4, x -> x.note(0, 1, false));
    }

    static void p24RefusedPlans() {
        refused("plan(3, 0)", -1, x -> x.plan(3, 0));
        refused("plan(-2, 0)", -1, x -> x.plan(-2, 0));
        refused("plan(1, 4)", -1, x -> x.plan(1, 4));
        refusedByFull("plan(0, 0)", -4, x -> x.plan(0, 0));
        refusedByFull("plan(1, 1)", -4, x -> x.plan(1, 1));
    }

    static void p26RefusedBooks() {
        refused("book(0, 2)", -1, x -> x.book(0, 2));
        refused("book(61, 0)", -2, x -> x.book(61, 0));
        refused("book(-2, 0)", -2, x -> x.book(-2, 0));
        refusedByFull("book(0, 1)", -4, x -> x.book(0, 1));
        refusedByFull("book(0, 0)", -4, x -> x.book(0, 0));
    }

    static void p32ARefusedUndo() {
        StarCustody x = Check.with(1, 3, 4, 1);
        StarCustody y = Check.with(1, 3, 4, 1);
        Check.sky(x, "turn 2");
        Check.sky(y, "turn 2");
        nothing("undo()", x, y, x.undo(), -3);
    }

    // ---- asked, as told and not

    static void p05AskedOfALight() {
        asked("of", x -> x.of(3, 5) * 10 + x.of(9, 0) + x.of(0, 9));
    }

    static void p06AskedOfABase() {
        asked("base", x -> x.base(0, 1, 60) + x.base(9, 1, 0) + x.base(0, 2, 0) + x.base(0, 0, 61));
    }

    static void p07AskedOfAWorth() {
        asked("worth", x -> x.worth(2, 1, 60) + x.worth(9, 1, 0) + x.worth(0, 2, 0) + x.worth(0, 0, 61));
    }

    static void p11AskedOfThisNight() {
        asked("told", x -> x.told(8) + x.told(9) + x.told(10) + x.told(-1));
    }

    static void p13AskedOfNightsToCome() {
        asked("on", x -> x.on(60, 0) + x.on(60, 1) + x.on(60, 2) + x.on(61, 0) + x.on(0, 3));
    }

    static void p14AskedWhen() {
        asked("when", x -> x.when(0) + x.when(3) + x.when(9));
    }

    static void p15AskedWhenTwoMeet() {
        asked("meet", x -> x.meet(0, 1) + x.meet(0, 3) + x.meet(0, 0) + x.meet(0, 9));
    }

    static void p16AskedOfDeals() {
        asked("fullest", x -> x.deal(9, 0, 0) + x.deal(9, 0, 1) + x.deal(9, 0, 2) + x.deal(10, 0, 0));
        asked("even", x -> x.deal(9, 1, 0) + x.deal(9, 1, 1) + x.deal(9, 1, 2) + x.deal(9, 2, 0) + x.deal(9, 0, 3));
    }

    static void p17AskedOfShares() {
        asked("shares", x -> x.shares(0) + x.shares(1) + x.shares(2));
    }

    static void p19AskedOfRounds() {
        asked("rounds", x -> x.rounds(0, 0) + x.rounds(1, 1) + x.rounds(9, 0) + x.rounds(0, 2));
    }

    static void p20AskedOfPhases() {
        asked("phases", x -> x.phases(0, 0) + x.phases(1, 1) + x.phases(9, 0) + x.phases(0, 2));
    }

    static void p21AskedOfFirmness() {
        asked("firm", x -> x.firm(0, 0) + x.firm(3, 1) + x.firm(9, 0) + x.firm(0, 2));
    }

    static void p22AskedOfOdds() {
        asked("odds", x -> x.odds(0, 60, 20, 0) + x.odds(1, 60, 20, 1));
        asked("odds as not told", x -> x.odds(2, 0, 0, 0) + x.odds(0, 61, 0, 0));
    }

    static void p23AskedOfAMean() {
        asked("mean", x -> x.mean(0, 0) + x.mean(1, 1));
        asked("mean as not told", x -> x.mean(2, 0) + x.mean(0, 2));
    }

    static void p25AskedWhatIsDone() {
        asked("done", x -> x.done(0) + x.done(1) + x.done(2));
    }

    static void p27AskedWhatIsLookedAt() {
        asked("looked", x -> x.looked());
    }

    static void p29AskedOfTheTrace() {
        asked("trace", x -> x.trace(0) + x.trace(6) + x.trace(7) + x.trace(-1));
    }

    static void p30AskedOfKinds() {
        asked("as", x -> x.as(2, 3) + x.as(2, 1) + x.as(2, 7) + x.as(9, 0));
    }

    static void p33AskedOfCounts() {
        asked("count", x -> x.count(0) + x.count(6) + x.count(7));
    }
}
