/** What the tests by hand share: an answer against the one that is due, and refusals that change nothing. */
final class Check {
    private static int wrong = 0;
    private static int looked = 0;

    private Check() {
    }

    static void same(String what, long got, long due) {
        looked++;
        if (got != due) {
            wrong++;
            System.out.println(what + " answered " + got + ", due is " + due);
        }
    }

    static void same(String what, boolean got, boolean due) {
        same(what, got ? 1 : 0, due ? 1 : 0);
    }

    /** The call must throw just this, and leave all that can be seen as it was. */
    static void refused(TagRounds x, Class<?> due, String what, Runnable call) {
        looked++;
        String before = seen(x);
        String got = "nothing";
        try {
            call.run();
        } catch (RuntimeException e) {
            got = e.getClass().getSimpleName();
            looksThrown(what, e);
        }
        if (!got.equals(due.getSimpleName())) {
            wrong++;
            System.out.println(what + " throws " + got + ", due is " + due.getSimpleName());
        }
        if (!before.equals(seen(x))) {
            wrong++;
            System.out.println(what + " throws, but changes something");
        }
    }

    // What the machine or its library throws has its first row elsewhere.
    private static void looksThrown(String what, RuntimeException e) {
        if (!e.getStackTrace()[0].getClassName().startsWith("TagRounds")) {
            wrong++;
            System.out.println(what + " is not thrown by the class itself");
        }
    }

    static void index(TagRounds x, String what, Runnable call) {
        refused(x, IndexOutOfBoundsException.class, what, call);
    }

    static void argument(TagRounds x, String what, Runnable call) {
        refused(x, IllegalArgumentException.class, what, call);
    }

    static void state(TagRounds x, String what, Runnable call) {
        refused(x, IllegalStateException.class, what, call);
    }

    static void element(TagRounds x, String what, Runnable call) {
        refused(x, java.util.NoSuchElementException.class, what, call);
    }

    /** All that the class tells of an object. */
    static String seen(TagRounds x) {
        StringBuilder b = new StringBuilder();
        for (int i = 0; i <= 11; i++) {
            b.append(x.count(i)).append(' ');
        }
        for (int r = 0; r < 4; r++) {
            for (int w = 0; w <= 15; w++) {
                b.append(x.reader(r, w)).append(' ');
            }
        }
        for (int t = 0; t < x.count(0); t++) {
            seenTag(x, t, b);
        }
        for (int k = -1; k < 80; k++) {
            b.append(x.heard(k)).append(' ').append(x.sent(k)).append(' ');
        }
        for (int k = 0; k < 41; k++) {
            for (int w = 0; w < 4; w++) {
                b.append(x.log(k, w)).append(' ');
            }
        }
        return b.toString();
    }

    private static void seenTag(TagRounds x, int t, StringBuilder b) {
        for (int w = 0; w <= 14; w++) {
            b.append(x.tag(t, w)).append(' ');
        }
        for (int f = 0; f < 5; f++) {
            b.append(x.flag(t, f)).append(' ').append(x.fades(t, f)).append(' ');
        }
        int[] words = {4, 2 + x.tag(t, 9), 2, 4};
        for (int bank = 0; bank < 4; bank++) {
            b.append(x.mode(t, bank)).append(' ');
            for (int w = 0; w < words[bank]; w++) {
                b.append(x.word(t, bank, w)).append(' ');
            }
        }
        int seed = x.seed(t, 0);
        x.seed(t, seed);
        b.append(seed).append('\n');
    }

    /** The bits of what was sent, as a text of 0 and 1. */
    static String sent(TagRounds x) {
        StringBuilder b = new StringBuilder();
        for (int k = 0; k < x.sent(-1); k++) {
            b.append(x.sent(k));
        }
        return b.toString();
    }

    static void text(String what, String got, String due) {
        looked++;
        if (!got.equals(due)) {
            wrong++;
            System.out.println(what + " answered " + got + ", due is " + due);
        }
    }

    /** A TagRounds with so many tags that READER 0 reaches, READER 0 ON. */
    static TagRounds with(int tags) {
        TagRounds x = new TagRounds();
        for (int i = 0; i < tags; i++) {
            x.add(1, 1, (0x1234 + i) << 16, 0);
        }
        x.power(0, true);
        return x;
    }

    /** Brings TAG 0, the only one that answers, to OPEN or SECURED: its HANDLE. */
    static int open(TagRounds x, int session) {
        same("query of open()", x.query(0, 0, session, x.flag(0, session), 0), 1);
        same("ack of open()", x.ack(0, x.tag(0, 4)), 1);
        same("renew of open()", x.renew(0, x.tag(0, 4)), 1);
        return x.tag(0, 5);
    }

    /** A new COVER of TAG 0. */
    static int cover(TagRounds x, int handle) {
        same("renew of cover()", x.renew(0, handle), 1);
        return x.heard(0);
    }

    static void end(String name) {
        System.out.println(name + ": " + looked + " looked at, " + wrong + " wrong");
        if (wrong != 0) {
            System.exit(1);
        }
    }
}
