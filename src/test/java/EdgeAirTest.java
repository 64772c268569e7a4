/** Terms 1 (THE AIR) and promises 1 to 9: each sentence that names an edge, in its own words. */
public final class EdgeAirTest {
    private static void calls() {
        Check.sentence("An object is used for at most 512 calls after it has been made");
        TagRounds x = Check.with(1);
        x.steer(0, 0, 0);
        for (int i = 0; i < 507; i++) {
            x.round(0, 0, 2, i % 2, 1);
        }
        Check.same("READ ever as the 511th call", x.count(8), 507);
        Check.same("READ ever as the 512th call", x.tag(0, 11), 507);
        TagRounds full = new TagRounds();
        for (int i = 0; i < 16; i++) {
            full.add(15, 4, -1, -1);
            full.seed(i, 1);
        }
        full.power(0, true);
        full.steer(0, 0, 0);
        full.steer(0, 1, 1);
        for (int i = 35; i < 511; i++) {
            full.round(0, 0, 0, 0, i < 55 ? 400 : 1);
        }
        Check.same("SLOTS as the 512th call", full.reader(0, 4), 1);
    }

    private static void now() {
        Check.sentence("NOW 0 to 99999 (0 at first; it stops there)");
        TagRounds x = new TagRounds();
        Check.same("NOW at first", x.count(1), 0);
        Check.until(x, 99998);
        Check.same("NOW", x.count(1), 99998);
        Check.same("the last tick", x.rest(1), 99999);
        Check.same("behind the last tick", x.rest(1), 99999);
        Check.same("far behind it", x.rest(9999), 99999);
        TagRounds far = new TagRounds();
        Check.until(far, 90001);
        Check.same("over the end at once", far.rest(9999), 99999);
        TagRounds told = Check.with(0);
        Check.until(told, 99994);
        told.select(0, 0, 0);
        Check.same("the last tick by a command", told.count(1), 99999);
        TagRounds over = Check.with(1);
        Check.until(over, 99998);
        Check.same("it is answered still", over.query(0, 0, 0, 0, 0), 1);
        Check.same("over the end by a command", over.count(1), 99999);
        Check.same("HEARD", over.heard(-1), 1);
    }

    private static void readers() {
        Check.sentence("READERS 0 to 3, ON or OFF (at first)");
        TagRounds x = new TagRounds();
        for (int r = 0; r < 4; r++) {
            Check.same("at first", x.reader(r, 0), 0);
        }
        Check.same("ON at first", x.count(5), 0);
        for (int r = 0; r < 4; r++) {
            Check.same("OFF ahead", x.power(r, true), true);
            Check.same("ON", x.count(5), (2 << r) - 1);
            Check.same("ON", x.reader(r, 0), 1);
        }
        for (int r : new int[] {-1, 4, Integer.MIN_VALUE, Integer.MAX_VALUE}) {
            Check.index(x, "power " + r, () -> x.power(r, true));
        }
    }

    private static TagRounds lit(int frame, int from, int ticks) {
        TagRounds x = Check.with(0);
        x.time(0, frame);
        x.slice(0, from, ticks);
        return x;
    }

    // Whether READER 0 is BUSY, tick by tick from NOW on.
    private static void busy(String what, TagRounds x, int... due) {
        for (int i = 0; i < due.length; i++) {
            Check.same(what + " at " + x.count(1), x.reader(0, 1), due[i]);
            x.rest(1);
        }
    }

    private static void slices() {
        Check.sentence("FRAME 0 to 999 ticks (0 at first), SLICE of a READER: FROM, LONG (0 at first)");
        TagRounds x = Check.with(0);
        Check.same("FRAME at first", x.count(2), 0);
        x.time(0, 5);
        busy("LONG 0 at first", x, 0, 0, 0, 0, 0, 0);
        x.slice(0, 0, 0);
        busy("LONG 0", x, 0, 0, 0, 0, 0, 0);
        Check.sentence("it is BUSY, if it is ON, and what is left of NOW by FRAME is one of LONG ticks from FROM on");
        busy("3 ticks from 2 on", lit(7, 2, 3), 0, 0, 1, 1, 1, 0, 0, 0, 0, 1, 1, 1, 0, 0, 0);
        busy("just the last one", lit(3, 2, 1), 0, 0, 1, 0, 0, 1, 0);
        busy("just the first one", lit(3, 0, 1), 1, 0, 0, 1, 0, 0, 1);
        busy("all of them", lit(3, 0, 3), 1, 1, 1, 1, 1, 1, 1);
        busy("FRAME 1", lit(1, 0, 1), 1, 1, 1);
        for (int r = 0; r < 4; r++) {
            TagRounds one = new TagRounds();
            one.time(0, 3);
            one.power(r, true);
            one.slice(r, 0, 1);
            for (int i = 0; i < 4; i++) {
                Check.same("BUSY " + i + " with a SLICE of " + r, one.reader(i, 1), i == r ? 1 : 0);
            }
        }
        TagRounds off = lit(3, 0, 3);
        off.power(0, false);
        busy("OFF", off, 0, 0, 0);
        Check.sentence("not round the end");
        busy("beyond the end", lit(5, 3, 4), 0, 0, 0, 1, 1, 0, 0, 0, 1, 1, 0);
        busy("FROM the end on", lit(5, 5, 9), 0, 0, 0, 0, 0, 0);
        busy("FROM behind the end", lit(5, 6, 9), 0, 0, 0, 0, 0, 0, 0);
        TagRounds longest = lit(999, 998, 999);
        busy("longest FRAME", longest, 0);
        Check.until(longest, 997);
        busy("longest FRAME", longest, 0, 1, 0);
        busy("longest FRAME", lit(999, 0, 999), 1, 1);
        Check.sentence("never with FRAME 0");
        busy("FRAME 0", lit(0, 0, 999), 0, 0, 0);
    }

    private static void tagsFull() {
        Check.sentence("TAGS, at most 16, numbered from 0 on");
        TagRounds x = new TagRounds();
        for (int i = 0; i < 16; i++) {
            Check.same("its number", x.add(i, 1 + i % 4, i, i), i);
        }
        Check.state(x, "a 17th", () -> x.add(0, 1, 0, 0));
        Check.same("TAGS", x.count(0), 16);
        Check.same("REACH of the last", x.tag(15, 0), 15);
        Check.same("its own word", x.word(15, 2, 1), 15);
        Check.index(x, "TAG 16", () -> x.tag(16, 0));
    }

    private static void reach() {
        Check.sentence("REACH: READERS that reach it, as bits. It has POWER, if one of these is ON.");
        for (int reach = 0; reach < 16; reach++) {
            for (int r = 0; r < 4; r++) {
                TagRounds x = new TagRounds();
                x.add(reach, 1, 0, 0);
                x.power(r, true);
                boolean reached = (reach >> r & 1) == 1;
                Check.same("POWER with REACH " + reach + " and " + r + " ON", x.tag(0, 1) == 1, reached);
                Check.same("TAGS that " + r + " reaches", x.reader(r, 14), reached ? 1 : 0);
                Check.same("HEARS " + r, x.reader(r, 15), reached ? 1 : 0);
            }
        }
        TagRounds x = new TagRounds();
        x.add(3, 1, 0, 0);
        Check.same("none is ON", x.tag(0, 1), 0);
        x.power(0, true);
        x.power(1, true);
        x.power(0, false);
        Check.same("one of two", x.tag(0, 1), 1);
        x.power(1, false);
        Check.same("none any more", x.tag(0, 1), 0);
    }

    private static void hears() {
        Check.sentence("A TAG HEARS a READER that is ON and reaches it, if no other READER that reaches it is BUSY.");
        TagRounds x = new TagRounds();
        x.add(3, 1, 0, 0);
        x.add(1, 1, 0, 0);
        x.add(2, 1, 0, 0);
        x.add(4, 1, 0, 0);
        x.time(0, 10);
        x.slice(0, 0, 2);
        x.slice(1, 2, 2);
        Check.same("OFF", x.reader(0, 15), 0);
        x.power(0, true);
        Check.same("BUSY itself, the other OFF", x.reader(0, 15), 3);
        x.power(1, true);
        int[] zero = {3, 3, 2, 2, 3};
        int[] one = {4, 4, 5, 5, 5};
        for (int i = 0; i < 5; i++) {
            Check.same("HEAR 0 at " + i, x.reader(0, 15), zero[i]);
            Check.same("HEAR 1 at " + i, x.reader(1, 15), one[i]);
            Check.same("HEAR 2 at " + i, x.reader(2, 15), 0);
            x.rest(1);
        }
        x.slice(0, 0, 10);
        x.slice(1, 0, 10);
        Check.same("both BUSY", x.reader(0, 15), 2);
        x.power(1, false);
        Check.same("the other OFF", x.reader(0, 15), 3);
    }

    private static void words() {
        Check.sentence("Its BANKS are words 0 to 65535");
        TagRounds x = new TagRounds();
        x.add(0, 4, -1, Integer.MIN_VALUE);
        int[] epc = {65535, 65535, 32768, 0};
        for (int i = 0; i < 4; i++) {
            Check.same("word of EPC", x.word(0, 1, 2 + i), epc[i]);
        }
        for (int[] place : new int[][] {{0, 0}, {0, 3}, {1, 2}, {1, 5}, {3, 0}, {3, 3}}) {
            x.store(0, place[0], place[1], 65535);
            Check.same("the greatest", x.word(0, place[0], place[1]), 65535);
            Check.same("the least", x.store(0, place[0], place[1], 0), 65535);
            Check.same("the least", x.word(0, place[0], place[1]), 0);
            Check.argument(x, "too great", () -> x.store(0, place[0], place[1], 65536));
            Check.argument(x, "too small", () -> x.store(0, place[0], place[1], -1));
        }
        Check.sentence("0: 4 words (KILL, upper and lower half; ACCESS, upper and lower half; 0 at first)");
        banks(0, new int[] {0, 0, 0, 0});
        Check.sentence("2: 57856, its number; 3: 4 words (0 at first)");
        banks(2, new int[] {57856, 1});
        banks(3, new int[] {0, 0, 0, 0});
        Check.sentence("1: SUM, then 2048 times how many words EPC has, then EPC (1 to 4 words)");
        int[] sums = {0, 58355, 0, 0, 33066};
        for (int words = 1; words <= 4; words++) {
            TagRounds y = new TagRounds();
            y.add(0, words, -1, -1);
            Check.same("how many", y.word(0, 1, 1), 2048 * words);
            Check.same("words of EPC", y.tag(0, 9), words);
            Check.same("the last one", y.word(0, 1, 1 + words), 65535);
            int behind = 2 + words;
            Check.index(y, "behind it", () -> y.word(0, 1, behind));
            Check.same("SUM", sums[words] == 0 || y.word(0, 1, 0) == sums[words], true);
        }
        TagRounds none = new TagRounds();
        for (int n : new int[] {0, 5, -1, Integer.MIN_VALUE, Integer.MAX_VALUE}) {
            Check.argument(none, "so many words: " + n, () -> none.add(0, n, 0, 0));
        }
    }

    // The words of a BANK of TAG 1, and that there are no more of them.
    private static void banks(int bank, int[] due) {
        TagRounds x = new TagRounds();
        x.add(0, 1, 0, 0);
        x.add(0, 1, -1, -1);
        for (int i = 0; i < due.length; i++) {
            Check.same("word " + i + " of BANK " + bank, x.word(1, bank, i), due[i]);
        }
        for (int i : new int[] {-1, due.length, Integer.MIN_VALUE, Integer.MAX_VALUE}) {
            Check.index(x, "word " + i + " of BANK " + bank, () -> x.word(1, bank, i));
        }
    }

    // Each SUM was worked out apart from this project: CRC-16, 4129, 65535 first, turned over.
    private static void sums() {
        Check.sentence("is its highest bit unlike it, it is twice as much (16 bits), xor 4129, else twice as much");
        int[][] known = {{1, 0, 0, 65276}, {1, 0x12340000, 0, 60730}, {1, 0x80000000, 0, 58724}, {1, 0x00010000, 0, 61149},
            {2, 0x1234abcd, 0, 52644}, {3, 0x80000001, 0x7fff0000, 2088}, {4, 0, 0, 10187}, {4, 0x00010002, 0x00030004, 49917}, {4, -1, -1, 33066}};
        for (int[] k : known) {
            TagRounds x = new TagRounds();
            x.add(0, k[0], k[1], k[2]);
            Check.same("SUM of " + k[0] + " words, " + k[1] + ", " + k[2], x.word(0, 1, 0), k[3]);
        }
        Check.sentence("Whenever a word of EPC is another one, SUM is as it is then.");
        TagRounds x = Check.with(1);
        Check.same("SUM", x.word(0, 1, 0), 60730);
        x.store(0, 1, 2, 0);
        Check.same("told by hand", x.word(0, 1, 0), 65276);
        x.store(0, 1, 2, 0);
        Check.same("told the same", x.word(0, 1, 0), 65276);
        int handle = Check.open(x, 0);
        x.write(0, handle, 1, 2, 0x8000 ^ Check.cover(x, handle));
        Check.same("written", x.word(0, 1, 0), 58724);
        x.write(0, handle, 1, 2, 0x1234);
        Check.same("not written", x.word(0, 1, 0), 58724);
        x.store(0, 3, 2, 5);
        Check.same("a word of another BANK", x.word(0, 1, 0), 58724);
        TagRounds four = new TagRounds();
        four.add(0, 4, -1, 0);
        four.store(0, 1, 4, 65535);
        four.store(0, 1, 5, 65535);
        Check.same("the last word", four.word(0, 1, 0), 33066);
    }

    private static void draws() {
        Check.sentence("its SEED (at first its number and 1) is 1103515245 times it and 12345, wrapping; the DRAW is its bits 8 to 23");
        int[][] known = {{1, 50814, 32432}, {2, 36045, 8523}, {16, 25879, 1469}, {0, 48, 56342}, {-1, 14817, 14716},
            {Integer.MAX_VALUE, 14817, 14716}, {Integer.MIN_VALUE, 48, 56342}};
        for (int[] k : known) {
            TagRounds x = Check.with(1);
            x.seed(0, k[0]);
            x.query(0, 0, 0, 0, 15);
            Check.same("the first DRAW of " + k[0], x.tag(0, 3), k[1] & 32767);
            x.seed(0, k[0]);
            x.query(0, 0, 0, 0, 0);
            Check.same("the second DRAW of " + k[0], x.tag(0, 4), k[2]);
        }
        TagRounds all = new TagRounds();
        for (int i = 0; i < 16; i++) {
            all.add(1, 1, 0, 0);
            Check.same("SEED at first", all.seed(i, i + 1), i + 1);
        }
        all.power(0, true);
        all.query(0, 0, 0, 0, 15);
        Check.same("of the first TAG", all.tag(0, 3), 50814 - 32768);
        Check.same("of the second TAG", all.tag(1, 3), 36045 - 32768);
        Check.same("of the last TAG", all.tag(15, 3), 25879);
        TagRounds x = Check.with(1);
        x.query(0, 0, 0, 0, 0);
        Check.same("the SEED goes on, wrapping", x.seed(0, 0), 1103515245 * (1103515245 + 12345) + 12345);
    }

    private static void promise1() {
        Check.sentence("A new object");
        TagRounds x = new TagRounds();
        int[] counts = {0, 0, 0, 500, 1000, 0, 0, 0, 0, 1, 0, 0};
        for (int i = 0; i < counts.length; i++) {
            Check.same("count " + i, x.count(i), counts[i]);
        }
        for (int r = 0; r < 4; r++) {
            int[] due = {0, 0, 400, 25, 0, 0, 0, 0, 0, 0, 0, 0, 0, 0, 0, 0};
            for (int what = 0; what < due.length; what++) {
                Check.same("reader " + what, x.reader(r, what), due[what]);
            }
        }
        Check.sentence("`TagRounds()`: No TAGS.");
        Check.index(x, "TAG 0", () -> x.tag(0, 0));
        Check.index(x, "TAG 0", () -> x.seed(0, 0));
        for (int f = 0; f < 5; f++) {
            Check.same("left", x.left(f, 0) + x.left(f, 1), 0);
        }
    }

    private static void promise2() {
        Check.sentence("these from the highest bits of two numbers on: its number");
        int[][] halves = {{}, {0x8000}, {0x8000, 0x7fff}, {0x8000, 0x7fff, 0xffff}, {0x8000, 0x7fff, 0xffff, 0x0001}};
        for (int words = 1; words <= 4; words++) {
            TagRounds x = new TagRounds();
            Check.same("its number", x.add(0, words, 0x80007fff, 0xffff0001), 0);
            for (int i = 0; i < words; i++) {
                Check.same("word " + i + " of " + words, x.word(0, 1, 2 + i), halves[words][i]);
            }
        }
        Check.sentence("IllegalArgumentException: REACH (0 to 15), how many is none; IllegalStateException: there are 16.");
        TagRounds x = new TagRounds();
        for (int reach : new int[] {-1, 16, Integer.MIN_VALUE, Integer.MAX_VALUE}) {
            Check.argument(x, "REACH " + reach, () -> x.add(reach, 1, 0, 0));
        }
        Check.same("the least", x.add(0, 1, Integer.MIN_VALUE, Integer.MIN_VALUE), 0);
        Check.same("the greatest", x.add(15, 4, Integer.MAX_VALUE, Integer.MAX_VALUE), 1);
        Check.argument(x, "0 words", () -> x.add(0, 0, 0, 0));
        Check.argument(x, "5 words", () -> x.add(15, 5, 0, 0));
        for (int i = 2; i < 16; i++) {
            Check.same("its number", x.add(0, 1, 0, 0), i);
        }
        Check.state(x, "there are 16", () -> x.add(0, 1, 0, 0));
        Check.argument(x, "REACH is none, and there are 16", () -> x.add(16, 1, 0, 0));
        Check.argument(x, "how many is none, and there are 16", () -> x.add(0, 0, 0, 0));
    }

    private static void promise3() {
        Check.sentence("REACH of a TAG is told: what it was. IllegalArgumentException: it is none.");
        TagRounds x = new TagRounds();
        x.add(7, 1, 0, 0);
        Check.same("what it was", x.move(0, 0), 7);
        Check.same("the least", x.move(0, 15), 0);
        Check.same("the greatest", x.move(0, 15), 15);
        for (int reach : new int[] {-1, 16, Integer.MIN_VALUE, Integer.MAX_VALUE}) {
            Check.argument(x, "REACH " + reach, () -> x.move(0, reach));
        }
        for (int t : new int[] {-1, 1, 16, Integer.MIN_VALUE, Integer.MAX_VALUE}) {
            Check.index(x, "TAG " + t, () -> x.move(t, 0));
            Check.index(x, "TAG " + t + ", and REACH is none", () -> x.move(t, 16));
        }
    }

    private static void promise4() {
        Check.sentence("A READER is ON, or OFF: whether it was otherwise.");
        TagRounds x = new TagRounds();
        for (int r = 0; r < 4; r++) {
            Check.same("OFF as it was", x.power(r, false), false);
            Check.same("ON", x.power(r, true), true);
            Check.same("ON as it was", x.power(r, true), false);
            Check.same("OFF", x.power(r, false), true);
        }
        Check.index(x, "READER 4", () -> x.power(4, false));
        Check.index(x, "READER -1", () -> x.power(-1, true));
    }

    private static void promise5() {
        Check.sentence("FRAME (what 0), HOLD (1), KEEP (2): what it was. NoSuchElementException: another what; IllegalArgumentException: n is none.");
        int[][] ranges = {{0, 999, 0}, {1, 9999, 500}, {1, 9999, 1000}};
        TagRounds x = new TagRounds();
        for (int what = 0; what < 3; what++) {
            int kind = what;
            int least = ranges[what][0];
            int greatest = ranges[what][1];
            Check.same("what it was at first", x.time(what, least), ranges[what][2]);
            Check.same("the least", x.time(what, greatest), least);
            Check.same("the greatest", x.count(2 + what), greatest);
            Check.argument(x, "too small", () -> x.time(kind, least - 1));
            Check.argument(x, "too great", () -> x.time(kind, greatest + 1));
            Check.argument(x, "far too small", () -> x.time(kind, Integer.MIN_VALUE));
            Check.argument(x, "far too great", () -> x.time(kind, Integer.MAX_VALUE));
        }
        for (int what : new int[] {-1, 3, Integer.MIN_VALUE, Integer.MAX_VALUE}) {
            Check.element(x, "what " + what, () -> x.time(what, 1));
            Check.element(x, "what " + what + ", and n is none", () -> x.time(what, 10000));
        }
    }

    private static void promise6() {
        Check.sentence("SLICE of a READER. IllegalArgumentException: one is none (0 to 999).");
        TagRounds x = lit(999, 0, 0);
        int[][] edges = {{0, 999, 1}, {0, 0, 0}, {999, 999, 0}, {0, 1, 1}};
        for (int[] e : edges) {
            x.slice(0, e[0], e[1]);
            Check.same("BUSY with " + e[0] + ", " + e[1], x.reader(0, 1), e[2]);
        }
        int[][] none = {{-1, 0}, {1000, 0}, {0, -1}, {0, 1000}, {Integer.MIN_VALUE, 1}, {1, Integer.MAX_VALUE}, {Integer.MAX_VALUE, Integer.MIN_VALUE}};
        for (int[] n : none) {
            Check.argument(x, "slice " + n[0] + ", " + n[1], () -> x.slice(0, n[0], n[1]));
            Check.index(x, "slice " + n[0] + ", " + n[1] + " of no READER", () -> x.slice(4, n[0], n[1]));
        }
        Check.same("BUSY as ahead of that", x.reader(0, 1), 1);
        Check.index(x, "READER -1", () -> x.slice(-1, 0, 0));
    }

    private static void promise7() {
        Check.sentence("So many ticks go (1 to 9999): NOW. IllegalArgumentException: they are none.");
        TagRounds x = new TagRounds();
        Check.same("the fewest", x.rest(1), 1);
        Check.same("the most", x.rest(9999), 10000);
        for (int n : new int[] {0, 10000, -1, Integer.MIN_VALUE, Integer.MAX_VALUE}) {
            Check.argument(x, "rest " + n, () -> x.rest(n));
        }
        Check.until(x, 99999);
        Check.argument(x, "none, at the end too", () -> x.rest(0));
        Check.same("some, at the end", x.rest(1), 99999);
    }

    private static void promise8() {
        Check.sentence("The SEED of a TAG: what it was.");
        TagRounds x = new TagRounds();
        x.add(0, 1, 0, 0);
        int was = 1;
        for (int n : new int[] {0, -1, Integer.MIN_VALUE, Integer.MAX_VALUE, 1}) {
            Check.same("what it was", x.seed(0, n), was);
            was = n;
        }
        for (int t : new int[] {-1, 1, Integer.MIN_VALUE, Integer.MAX_VALUE}) {
            Check.index(x, "TAG " + t, () -> x.seed(t, 0));
        }
    }

    private static void promise9() {
        Check.sentence("A word of a TAG is told by hand (BANK 0, 3, EPC of 1): what it was.");
        TagRounds x = new TagRounds();
        x.add(0, 2, 0, 0);
        int[][] places = {{0, 0}, {0, 1}, {0, 2}, {0, 3}, {1, 2}, {1, 3}, {3, 0}, {3, 1}, {3, 2}, {3, 3}};
        for (int i = 0; i < places.length; i++) {
            Check.same("what it was", x.store(0, places[i][0], places[i][1], 100 + i), 0);
        }
        for (int i = 0; i < places.length; i++) {
            Check.same("each its own", x.store(0, places[i][0], places[i][1], 65535), 100 + i);
        }
        Check.sentence("there is no such TAG, BANK, word, or it may not be told so; IllegalArgumentException: the value is none");
        int[][] none = {{-1, 0, 0}, {1, 0, 0}, {0, -1, 0}, {0, 4, 0}, {0, 0, -1}, {0, 0, 4}, {0, 1, -1}, {0, 1, 0}, {0, 1, 1}, {0, 1, 4}, {0, 1, 5},
            {0, 2, 0}, {0, 2, 1}, {0, 2, 2}, {0, 2, -1}, {0, 3, -1}, {0, 3, 4}, {0, 0, Integer.MAX_VALUE}, {0, 3, Integer.MIN_VALUE},
            {Integer.MAX_VALUE, 0, 0}, {0, Integer.MIN_VALUE, 0}};
        for (int[] n : none) {
            Check.index(x, "store " + n[0] + ", " + n[1] + ", " + n[2], () -> x.store(n[0], n[1], n[2], 0));
            Check.index(x, "store " + n[0] + ", " + n[1] + ", " + n[2] + ", and no value", () -> x.store(n[0], n[1], n[2], -1));
        }
        for (int value : new int[] {-1, 65536, Integer.MIN_VALUE, Integer.MAX_VALUE}) {
            Check.argument(x, "store " + value, () -> x.store(0, 3, 3, value));
        }
    }

    public static void main(String[] args) {
        calls();
        now();
        readers();
        slices();
        tagsFull();
        reach();
        hears();
        words();
        sums();
        draws();
        promise1();
        promise2();
        promise3();
        promise4();
        promise5();
        promise6();
        promise7();
        promise8();
        promise9();
        Check.end("EdgeAirTest");
    }
}
