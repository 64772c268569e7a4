import java.io.IOException;
import java.nio.file.Files;
import java.nio.file.Path;

/** What the tests by hand share: an answer against the one that is due, and refusals that change nothing. */
final class Check {
    private static final Path DOC = Path.of("../shared/DOC.md");
    private static int wrong = 0;
    private static int looked = 0;
    private static int sentences = 0;
    private static int lookedAhead = 0;
    private static String sentence = "";
    private static String doc;

    private Check() {
    }

    /** What is looked at from here on is due by this sentence: it must stand in the document, word by word. */
    static void sentence(String words) {
        sentenceEnds();
        sentence = "\"" + words + "\": ";
        sentences++;
        if (!document().isEmpty() && !document().contains(words)) {
            fault("the document does not say so");
        }
    }

    // A sentence without a look at it would be a test in name only.
    private static void sentenceEnds() {
        if (!sentence.isEmpty() && looked == lookedAhead) {
            fault("nothing is looked at");
        }
        lookedAhead = looked;
    }

    // Empty where the document is not to be found: the tests themselves do not need it.
    private static String document() {
        if (doc == null) {
            try {
                doc = Files.isReadable(DOC) ? Files.readString(DOC) : "";
            } catch (IOException e) {
                doc = "";
            }
        }
        return doc;
    }

    private static void fault(String text) {
        wrong++;
        System.out.println(sentence + text);
    }

    static void same(String what, long got, long due) {
        looked++;
        if (got != due) {
            fault(what + " answered " + got + ", due is " + due);
        }
    }

    static void same(String what, boolean got, boolean due) {
        same(what, got ? 1 : 0, due ? 1 : 0);
    }

    /** The call must throw just this, and leave all that can be seen as it was. */
    static void refused(TagRounds x, Class<?> due, String what, Runnable call) {
        looked++;
        String before = seen(x);
        String got = "nothing";
        try {
            call.run();
        } catch (RuntimeException e) {
            got = e.getClass().getSimpleName();
            looksThrown(what, e);
        }
        if (!got.equals(due.getSimpleName())) {
            fault(what + " throws " + got + ", due is " + due.getSimpleName());
        }
        if (!before.equals(seen(x))) {
            fault(what + " throws, but changes something");
        }
    }

    // What the machine or its library throws has its first row elsewhere.
    private static void looksThrown(String what, RuntimeException e) {
        if (!e.getStackTrace()[0].getClassName().startsWith("TagRounds")) {
            fault(what + " is not thrown by the class itself");
        }
    }

    static void index(TagRounds x, String what, Runnable call) {
        refused(x, IndexOutOfBoundsException.class, what, call);
    }

    static void argument(TagRounds x, String what, Runnable call) {
        refused(x, IllegalArgumentException.class, what, call);
    }

    static void state(TagRounds x, String what, Runnable call) {
        refused(x, IllegalStateException.class, what, call);
    }

    static void element(TagRounds x, String what, Runnable call) {
        refused(x, java.util.NoSuchElementException.class, what, call);
    }

    /** All that the class tells of an object. */
    static String seen(TagRounds x) {
        StringBuilder b = new StringBuilder();
        for (int i = 0; i <= 11; i++) {
            b.append(x.count(i)).append(' ');
        }
        for (int r = 0; r < 4; r++) {
            for (int w = 0; w <= 15; w++) {
                b.append(x.reader(r, w)).append(' ');
            }
        }
        for (int t = 0; t < x.count(0); t++) {
            seenTag(x, t, b);
        }
        for (int k = -1; k < 80; k++) {
            b.append(x.heard(k)).append(' ').append(x.sent(k)).append(' ');
        }
        for (int k = 0; k < 41; k++) {
            for (int w = 0; w < 4; w++) {
                b.append(x.log(k, w)).append(' ');
            }
        }
        return b.toString();
    }

    private static void seenTag(TagRounds x, int t, StringBuilder b) {
        for (int w = 0; w <= 14; w++) {
            b.append(x.tag(t, w)).append(' ');
        }
        for (int f = 0; f < 5; f++) {
            b.append(x.flag(t, f)).append(' ').append(x.fades(t, f)).append(' ');
        }
        int[] words = {4, 2 + x.tag(t, 9), 2, 4};
        for (int bank = 0; bank < 4; bank++) {
            b.append(x.mode(t, bank)).append(' ');
            for (int w = 0; w < words[bank]; w++) {
                b.append(x.word(t, bank, w)).append(' ');
            }
        }
        int seed = x.seed(t, 0);
        x.seed(t, seed);
        b.append(seed).append('\n');
    }

    /** The bits of what was sent, as a text of 0 and 1. */
    static String sent(TagRounds x) {
        StringBuilder b = new StringBuilder();
        for (int k = 0; k < x.sent(-1); k++) {
            b.append(x.sent(k));
        }
        return b.toString();
    }

    static void text(String what, String got, String due) {
        looked++;
        if (!got.equals(due)) {
            fault(what + " answered " + got + ", due is " + due);
        }
    }

    /** A TagRounds with so many tags that READER 0 reaches, READER 0 ON. */
    static TagRounds with(int tags) {
        TagRounds x = new TagRounds();
        for (int i = 0; i < tags; i++) {
            x.add(1, 1, (0x1234 + i) << 16, 0);
        }
        x.power(0, true);
        return x;
    }

    /** Brings TAG 0, the only one that answers, to OPEN or SECURED: its HANDLE. */
    static int open(TagRounds x, int session) {
        same("query of open()", x.query(0, 0, session, x.flag(0, session), 0), 1);
        same("ack of open()", x.ack(0, x.tag(0, 4)), 1);
        same("renew of open()", x.renew(0, x.tag(0, 4)), 1);
        return x.tag(0, 5);
    }

    /** A new COVER of TAG 0. */
    static int cover(TagRounds x, int handle) {
        same("renew of cover()", x.renew(0, handle), 1);
        return x.heard(0);
    }

    /** Lets ticks go until NOW is that. */
    static void until(TagRounds x, int now) {
        while (x.count(1) < now) {
            x.rest(Math.min(9999, now - x.count(1)));
        }
    }

    /** One TAG of READER 0 in this STATE, of SESSION 2, its passwords 1, 2 (KILL) and 3, 4 (ACCESS) but if it is SECURED. */
    static TagRounds inState(int state) {
        TagRounds x = with(1);
        for (int i = 0; i < 4; i++) {
            x.store(0, 0, i, state == 5 && i > 1 ? 0 : i + 1);
        }
        if (state == 1) {
            x.seed(0, Draws.seedFor(2));
            x.query(0, 0, 2, 0, 2);
        } else if (state == 2) {
            x.query(0, 0, 2, 0, 0);
        } else if (state == 3) {
            x.query(0, 0, 2, 0, 0);
            x.ack(0, x.heard(0));
        } else if (state > 3) {
            int handle = open(x, 2);
            if (state == 6) {
                x.pass(0, handle, cover(x, handle) ^ 1, true);
                x.pass(0, handle, cover(x, handle) ^ 2, true);
            }
        }
        same("STATE of inState()", x.tag(0, 2), state);
        return x;
    }

    static void end(String name) {
        sentenceEnds();
        String said = sentences == 0 ? "" : sentences + " sentences, ";
        System.out.println(name + ": " + said + looked + " looked at, " + wrong + " wrong");
        if (wrong != 0) {
            System.exit(1);
        }
    }
}
