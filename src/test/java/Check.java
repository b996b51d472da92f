/** What the tests share: due answers, and tapes fed from texts. */
final class Check {
    private static int wrong = 0;

    private Check() {
    }

    static void due(String what, long got, long want) {
        if (got != want) {
            wrong++;
            System.out.println(what + ": answered " + got + ", due is " + want);
        }
    }

    static void feed(StarCustody x, String text) {
        for (int i = 0; i < text.length(); i++) {
            due("feed of " + text + " at " + i, x.feed(text.charAt(i)), x.count(5));
        }
    }

    /** Feeds a text to an empty tape, and reads it. */
    static int sky(StarCustody x, String text) {
        feed(x, text);
        return x.sky();
    }

    static StarCustody under(String text) {
        StarCustody x = new StarCustody();
        due("sky " + text, sky(x, text), 0);
        return x;
    }

    static void pass(StarCustody x, int nights) {
        for (int left = nights; left > 0; left -= 60) {
            x.pass(Math.min(left, 60));
        }
    }

    static void end(String name) {
        System.out.println(name + (wrong == 0 ? ": all answers are as due" : ": " + wrong + " answers are not as due"));
        if (wrong != 0) {
            System.exit(1);
        }
    }
}
