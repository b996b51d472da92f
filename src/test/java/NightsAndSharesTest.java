/** Promises 13 to 17. */
public final class NightsAndSharesTest {
    public static void main(String[] args) {
        promise13();
        promise14();
        promise15();
        promise16();
        promise16Ties();
        promise17();
        promise17Clouds();
        Check.end("NightsAndSharesTest");
    }

    private static void due(String what, long got, long want) {
        Check.due(what, got, want);
    }

    private static void promise13() {
        StarCustody x = Check.under("turn 2;cloud 4;dear 1 h=1");
        x.light(0, 0, 1, 0);
        x.light(0, 0, 3, 0);
        due("13: 0 nights, house 0", x.on(0, 0), 0);
        due("13: 0 nights, up", x.on(0, 2), 2);
        due("13: 1 night", x.on(1, 0), 10);
        due("13: 4 nights, house 0", x.on(4, 0), 15);
        due("13: 4 nights, house 1", x.on(4, 1), 6);
        due("13: 6 nights, house 0", x.on(6, 0), 25);
        due("13: up then", x.on(5, 2), 1);
        due("13: up on a clouded night", x.on(3, 2), 2);
        due("13: nothing changed", x.told(0) + x.told(6) + x.told(7), 0);
        int zero = x.on(60, 0);
        int one = x.on(60, 1);
        x.pass(60);
        due("13: as it goes, house 0", x.told(6), zero);
        due("13: as it goes, house 1", x.told(7), one);
        due("13: what was seen stays", x.on(0, 0), zero);
        due("13: up two nights on", x.on(2, 2), 1);
        due("13: up three nights on", x.on(3, 2), 2);
        x.pass(1);
        due("13: up two nights on from the next", x.on(2, 2), 2);
        due("13: what 3", x.on(61, 3), -1);
        due("13: what -1", x.on(0, -1), -1);
        due("13: n 61", x.on(61, 0), -2);
        due("13: n -1", x.on(-1, 2), -2);
        Check.pass(x, 9999 - 61);
        x.hide(1, true);
        due("13: beyond 9999", x.on(60, 2), 1);
        due("13: house 1 beyond 9999", x.on(2, 1) - x.told(7), 0);
        due("13: house 0 beyond 9999", x.on(4, 0) - x.told(6), 10);
    }

    private static void promise14() {
        StarCustody x = new StarCustody();
        x.light(0, 0, 7, 3);
        x.light(2, 9, 30, 29);
        x.light(5, 0, 7, 0);
        x.light(1, 0, 30, 15);
        due("14: star", x.when(0), 4);
        due("14: comet", x.when(1), 91);
        due("14: a guest that never comes", x.when(2), -5);
        due("14: moon", x.when(3), 15);
        x.pass(4);
        due("14: this one", x.when(0), 0);
        x.pass(1);
        due("14: the next", x.when(0), 6);
        x.hide(0, true);
        due("14: hidden", x.when(0), -5);
        due("14: light 4", x.when(4), -1);
        due("14: light -1", x.when(-1), -1);
        Check.pass(x, 9994);
        due("14: beyond 9999", x.when(1), 22);
    }

    private static void promise15() {
        StarCustody x = new StarCustody();
        x.light(0, 0, 30, 29);
        x.light(0, 0, 29, 28);
        x.light(0, 0, 2, 0);
        x.light(0, 0, 2, 1);
        x.light(0, 0, 30, 0);
        x.light(0, 0, 29, 1);
        due("15: soon", x.meet(0, 1), 1);
        due("15: either way", x.meet(1, 0), 1);
        due("15: never", x.meet(2, 3), -5);
        due("15: far", x.meet(4, 5), 840);
        due("15: farther", x.meet(0, 5), 811);
        due("15: one is both", x.meet(2, 2), -2);
        due("15: none ahead of bad", x.meet(6, 6), -1);
        due("15: other", x.meet(0, 6), -1);
        due("15: one", x.meet(-1, 0), -1);
        x.hide(2, true);
        due("15: hidden", x.meet(2, 0), -5);
        farthest();
    }

    /** By rounds 30 and 29 both are up once in 870 nights. */
    private static void farthest() {
        StarCustody y = new StarCustody();
        y.light(2, 9, 10, 0);
        y.light(0, 0, 9, 0);
        due("15: from 90 on", y.meet(0, 1), 90);
        StarCustody z = new StarCustody();
        z.light(2, 9, 30, 0);
        z.light(0, 0, 29, 0);
        due("15: 870", z.meet(0, 1), 870);
        z.set(1, 1, 28);
        due("15: 30 is too early, 900 is not too far", z.meet(0, 1), 900);
        z.set(1, 1, 27);
        due("15: 60 is too early, 930 too far", z.meet(0, 1), -5);
        z.set(0, 1, 29);
        due("15: 31 is too early, 901 too far", z.meet(0, 1), -5);
        z.pass(1);
        due("15: a night later it is 900", z.meet(0, 1), 900);
    }

    private static StarCustody dealt() {
        StarCustody x = Check.under("dear 4 h=1&n=1;dear 1 h=0&n=2;dear 2 h=1&n=4");
        x.light(0, 0, 1, 0);
        return x;
    }

    private static void promise16() {
        StarCustody x = dealt();
        due("16: fullest", x.deal(5, 0, 0), 18);
        due("16: fullest, house 0", x.deal(5, 0, 1), 16);
        due("16: fullest, house 1", x.deal(5, 0, 2), 16);
        due("16: one night", x.deal(1, 0, 0), 0);
        due("16: one night, even", x.deal(1, 1, 0), 0);
        due("16: one night, even, house 0", x.deal(1, 1, 1), 5);
        due("16: two nights, even", x.deal(2, 1, 0), 2);
        due("16: two nights, even, house 1", x.deal(2, 1, 2), 9);
        due("16: even of 5", x.deal(5, 1, 0), 18);
        due("16: even of 4", x.deal(4, 1, 0), 3);
        due("16: even of 4, house 0", x.deal(4, 1, 1), 11);
        due("16: even of 4, house 1", x.deal(4, 1, 2), 14);
        due("16: how -1", x.deal(0, -1, 0), -1);
        due("16: how 2", x.deal(1, 2, 0), -1);
        due("16: what -1", x.deal(1, 0, -1), -1);
        due("16: what 3", x.deal(0, 0, 3), -1);
        due("16: n 0", x.deal(0, 0, 0), -2);
        due("16: n 10", x.deal(10, 1, 2), -2);
        due("16: nothing changed", x.told(0), 0);
        x.pass(1);
        due("16: from this night on", x.deal(4, 0, 0), 9);
    }

    private static void promise16Ties() {
        StarCustody x = new StarCustody();
        x.light(0, 0, 1, 0);
        due("16: nine alike, fullest", x.deal(9, 0, 0), 0);
        due("16: nine alike, house 0", x.deal(9, 0, 1), 45);
        due("16: nine alike, even", x.deal(9, 1, 0), 15);
        due("16: nine alike, even, house 0", x.deal(9, 1, 1), 25);
        due("16: nine alike, even, house 1", x.deal(9, 1, 2), 20);
        StarCustody y = Check.under("dim 2 h=1&n=0");
        y.light(0, 0, 1, 0);
        due("16: the lesser first, then both", y.deal(3, 1, 0), 2);
        due("16: then both, house 0", y.deal(3, 1, 1), 10);
        StarCustody z = Check.under("cloud 2");
        z.light(0, 0, 1, 0);
        due("16: clouded nights are worth nothing", z.deal(4, 1, 2), 5);
        due("16: and go to house 0", z.deal(4, 1, 0), 1);
        StarCustody u = Check.under("dear 4 h=1");
        u.light(0, 0, 1, 0);
        due("16: a lesser of 0 both ways, both is more by house 1", u.deal(1, 1, 0), 1);
        StarCustody w = Check.under("turn 9;dear 3 n=0");
        w.light(0, 0, 1, 0);
        due("16: of several even ones both have more", w.deal(3, 1, 0), 1);
        due("16: turns aside", w.deal(3, 1, 1), 10);
    }

    private static void promise17() {
        StarCustody x = Check.under("dear 9 h=1&p=0;dear 1 h=0&p=1");
        due("17: no lights", x.shares(0) + x.shares(1), 0);
        x.light(0, 0, 7, 0);
        due("17: one light is envied", x.shares(0), -5);
        due("17: greatest gives it to house 1", x.shares(1), 1);
        x.light(0, 0, 7, 0);
        due("17: two", x.shares(0), 1);
        due("17: two, greatest", x.shares(1), 1);
        x.light(0, 0, 14, 0);
        due("17: three", x.shares(0), 1);
        due("17: three, greatest", x.shares(1), 1);
        x.hide(0, true);
        due("17: hidden ones are worth nothing", x.shares(1), 0);
        due("17: envied", x.shares(0), -5);
        due("17: what 2", x.shares(2), -1);
        due("17: what -1", x.shares(-1), -1);
        StarCustody y = new StarCustody();
        y.light(0, 0, 28, 0);
        y.light(0, 0, 28, 1);
        due("17: 28 nights from this one on", y.shares(0), 1);
        y.light(2, 3, 1, 0);
        due("17: later ones do not count", y.shares(0), 1);
        y.pass(1);
        due("17: night 28 does, night 30 with it", y.shares(0), 1);
        y.pass(2);
        due("17: the comet comes in the last of 28 nights", y.shares(0), -5);
    }

    /** Neither turns nor clouds make a difference to a share. */
    private static void promise17Clouds() {
        StarCustody x = Check.under("turn 9;cloud 2");
        x.light(0, 0, 2, 0);
        x.light(0, 0, 2, 1);
        due("17: what comes on clouded nights alone is worth as much", x.shares(0), 1);
        due("17: turns and clouds aside, greatest", x.shares(1), 0);
        due("17: a mean counts no clouded night", x.mean(0, 0), 5);
        due("17: a mean is halved by clouds", x.mean(0, 1), 2);
        StarCustody y = Check.under("turn 28");
        y.light(0, 0, 2, 0);
        y.light(0, 0, 2, 1);
        due("17: turns aside", y.shares(0), 1);
        StarCustody z = Check.under("cloud 1;dear 9 h=1&p=1");
        z.light(0, 0, 1, 0);
        z.light(0, 0, 1, 0);
        due("17: all nights clouded, light 1 is envied", z.shares(0), 2);
        due("17: all nights clouded, greatest", z.shares(1), 2);
        due("17: all nights clouded have nothing", z.told(8) + z.told(9), 0);
        z.hide(1, true);
        due("17: hidden ones are worth nothing under clouds too", z.shares(0), -5);
        due("17: hidden ones are worth nothing, greatest", z.shares(1), 0);
        promise17LateClouds();
    }

    /** The rarest cloud, on night 98, is aside as the common ones are. */
    private static void promise17LateClouds() {
        StarCustody x = Check.under("cloud 99;dear 1 h=0&p=0");
        x.light(0, 0, 30, 22);
        x.light(0, 0, 30, 21);
        Check.pass(x, 97);
        due("17: light 0 comes on the clouded night", x.when(0), 1);
        due("17: light 1 on the next", x.when(1), 2);
        due("17: a clouded night of 28 counts as the others", x.shares(0), 2);
        due("17: to the one to whom it is worth more", x.shares(1), 0);
    }
}
