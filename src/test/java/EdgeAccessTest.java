/** Terms 2 (READ, WRITE, LOCK, PASS) and promises 18 to 21, 33, 34: each sentence that names an edge, in its own words. */
public final class EdgeAccessTest {
    private static final int NO_WORDS = 65539;
    private static final int MAY_NOT = 65540;
    private static final int NO_COVER = 65551;
    private static final int[] LENGTHS = {4, 3, 2, 4};

    // The one word that was answered; NONE for no answer or more words.
    private static int said(TagRounds x, int answered) {
        return answered == 1 && x.heard(-1) == 1 ? x.heard(0) : -1;
    }

    private static int half(TagRounds x, int plain, boolean kill) {
        int handle = x.tag(0, 5);
        return x.pass(0, handle, plain ^ Check.cover(x, handle), kill);
    }

    private static int write(TagRounds x, int bank, int word, int value) {
        int handle = x.tag(0, 5);
        return said(x, x.write(0, handle, bank, word, value ^ Check.cover(x, handle)));
    }

    private static int access(TagRounds x, int kind, int handle) {
        switch (kind) {
            case 0: return x.read(0, handle, 3, 0, 1);
            case 1: return x.write(0, handle, 3, 0, 1);
            case 2: return x.lock(0, handle, 3, 0);
            default: return x.pass(0, handle, 1, true);
        }
    }

    private static void who() {
        Check.sentence("READ, WRITE, LOCK, PASS (4 ticks each) of a HANDLE: those that REPLY, are KNOWN WAIT; of OPEN, SECURED ones the one with that HANDLE does it");
        for (int kind = 0; kind < 4; kind++) {
            for (int state = 0; state < 7; state++) {
                TagRounds x = Check.inState(state);
                int own = x.tag(0, state < 4 ? 4 : 5);
                int now = x.count(1);
                Check.same("command " + kind + " in " + state, access(x, kind, own), state == 4 || state == 5 ? 1 : 0);
                Check.same("STATE from " + state, x.tag(0, 2), state == 2 || state == 3 ? 1 : state);
                Check.same("ticks", x.count(1) - now, state == 4 || state == 5 ? kind == 0 ? 8 : 7 : 5);
                for (int unlike : new int[] {1, 32768, 65536, Integer.MIN_VALUE}) {
                    TagRounds y = Check.inState(state);
                    Check.same("another HANDLE", access(y, kind, own ^ unlike), 0);
                    Check.same("STATE from " + state, y.tag(0, 2), state == 2 || state == 3 ? 1 : state);
                    Check.same("HANDLE stays", y.tag(0, 5), state > 3 ? own : -1);
                }
            }
        }
        TagRounds two = Check.with(2);
        two.move(1, 2);
        int handle = Check.open(two, 0);
        two.move(1, 1);
        two.move(0, 3);
        two.power(1, true);
        two.time(0, 999);
        two.slice(1, two.count(1), 20);
        two.query(0, 0, 1, 0, 0);
        two.ack(0, two.heard(0));
        two.renew(0, two.tag(1, 4));
        two.slice(1, 0, 0);
        Check.same("two are SECURED", two.tag(0, 2) + two.tag(1, 2), 10);
        Check.same("just one does it", two.write(0, handle, 3, 0, 0), 1);
        Check.same("its code", two.heard(0), NO_COVER);
        two.renew(0, handle);
        two.write(0, handle, 3, 0, two.tag(0, 6) ^ 77);
        Check.same("just one has it", two.word(0, 3, 0), 77);
        Check.same("the other has not", two.word(1, 3, 0), 0);
    }

    private static void answers() {
        Check.sentence("and answers: HANDLE (by READ these words behind it); or one word, 65536 and a code together, if it cannot");
        TagRounds x = Check.inState(5);
        int handle = x.tag(0, 5);
        Check.same("LOCK", said(x, x.lock(0, handle, 0, 0)), handle);
        Check.same("PASS", said(x, half(x, 1, true)), handle);
        Check.same("WRITE", write(x, 3, 0, 65535), handle);
        Check.same("READ", x.read(0, handle, 3, 0, 1), 1);
        Check.same("READ: words", x.heard(-1), 2);
        Check.same("READ: HANDLE", x.heard(0), handle);
        Check.same("READ: word", x.heard(1), 65535);
        Check.same("a code", said(x, x.write(0, handle, 3, 0, 0)), 65536 + 15);
        TagRounds least = Check.inState(3);
        least.seed(0, Draws.seedFor(0));
        least.renew(0, least.tag(0, 4));
        Check.same("HANDLE 0", said(least, least.lock(0, 0, 0, 0)), least.tag(0, 2) == 5 ? 0 : MAY_NOT);
        Check.same("HANDLE 0 reads", least.read(0, 0, 3, 0, 1), 1);
        Check.same("HANDLE 0", least.heard(0), 0);
    }

    private static void codes() {
        Check.sentence("Of READ, WRITE, LOCK the first of these codes: 3: there are no such words. 4: it may not. 15: WRITE without a COVER.");
        TagRounds x = Check.inState(5);
        int handle = x.tag(0, 5);
        x.lock(0, handle, 3, 3);
        x.lock(0, handle, 1, 3);
        Check.same("WRITE: no such word, without a COVER", said(x, x.write(0, handle, 3, 4, 0)), NO_WORDS);
        Check.same("WRITE: may not, without a COVER", said(x, x.write(0, handle, 3, 3, 0)), MAY_NOT);
        Check.same("WRITE: BANK 2, without a COVER", said(x, x.write(0, handle, 2, 1, 0)), MAY_NOT);
        Check.same("WRITE: BANK 2, no such word", said(x, x.write(0, handle, 2, 2, 0)), NO_WORDS);
        Check.same("WRITE: SUM, without a COVER", said(x, x.write(0, handle, 1, 0, 0)), MAY_NOT);
        Check.same("WRITE: without a COVER", said(x, x.write(0, handle, 1, 2, 0)), NO_COVER);
        Check.same("READ: no such word, and one of an AREA that is SHUT", said(x, x.read(0, handle, 0, 2, 3)), NO_WORDS);
        Check.same("READ: one of an AREA that is SHUT", said(x, x.read(0, handle, 0, 2, 2)), MAY_NOT);
        Check.same("READ asks for no COVER", x.read(0, handle, 0, 0, 2), 1);
        Check.same("READ asks for no COVER", x.heard(-1), 3);
        int cover = Check.cover(x, handle);
        x.write(0, handle, 3, 4, 0);
        x.write(0, handle, 3, 3, 0);
        x.write(0, handle, 2, 1, 0);
        Check.same("COVER stays by a code", x.tag(0, 6), cover);
        Check.same("and WRITE does it then", said(x, x.write(0, handle, 1, 2, cover ^ 0x4444)), handle);
        Check.same("written", x.word(0, 1, 2), 0x4444);
    }

    private static void read() {
        Check.sentence("READ: so many words (1 to 4) of a BANK from one on: these.");
        TagRounds x = Check.inState(5);
        int handle = x.tag(0, 5);
        for (int i = 0; i < 4; i++) {
            x.store(0, 3, i, 900 + i);
        }
        for (int bank = 0; bank < 4; bank++) {
            for (int word = -1; word <= LENGTHS[bank]; word++) {
                for (int many = 1; many <= 4; many++) {
                    boolean there = word >= 0 && word + many <= LENGTHS[bank];
                    Check.same("READ", x.read(0, handle, bank, word, many), 1);
                    Check.same(many + " words of BANK " + bank + " from " + word + " on", x.heard(-1), there ? 1 + many : 1);
                    Check.same("HANDLE or code", x.heard(0), there ? handle : NO_WORDS);
                    for (int i = 0; i < many && there; i++) {
                        Check.same("word", x.heard(1 + i), x.word(0, bank, word + i));
                    }
                }
            }
            for (int far : new int[] {Integer.MIN_VALUE, Integer.MAX_VALUE, Integer.MAX_VALUE - 3, 256, 65536}) {
                Check.same("far off: " + far, said(x, x.read(0, handle, bank, far, 4)), NO_WORDS);
            }
        }
    }

    private static void readOfShut() {
        Check.sentence("BANK 0 is not READ (4), if a word of these is of an AREA that is SHUT for it.");
        for (int area = 0; area < 4; area++) {
            for (int mode = 0; mode < 4; mode++) {
                for (int state = 4; state < 6; state++) {
                    TagRounds y = locked(area, mode, state);
                    int handle = y.tag(0, 5);
                    boolean shut = mode == 3 || mode == 1 && state == 4;
                    for (int word = 0; word < 4; word++) {
                        for (int many = 1; many <= 4 - word; many++) {
                            boolean meets = area == 0 && word < 2 || area == 1 && word + many > 2;
                            int due = shut && meets ? 1 : 1 + many;
                            y.read(0, handle, 0, word, many);
                            Check.same("BANK 0, AREA " + area + ", MODE " + mode + ", STATE " + state, y.heard(-1), due);
                            Check.same("HANDLE or code", y.heard(0), due == 1 ? MAY_NOT : handle);
                        }
                    }
                    y.read(0, handle, 1, 0, 3);
                    Check.same("BANK 1 is READ", y.heard(-1), 4);
                    y.read(0, handle, 3, 0, 4);
                    Check.same("BANK 3 is READ", y.heard(-1), 5);
                }
            }
        }
    }

    private static void promise18() {
        TagRounds x = Check.inState(5);
        Check.sentence("READ. IllegalArgumentException: BANK (0 to 3), how many (1 to 4) is none.");
        int[][] none = {{-1, 1}, {4, 1}, {0, 0}, {0, 5}, {Integer.MIN_VALUE, 1}, {3, Integer.MAX_VALUE}, {3, Integer.MIN_VALUE}};
        for (int[] n : none) {
            Check.argument(x, "READ", () -> x.read(0, 0, n[0], 0, n[1]));
            Check.argument(x, "READ, OFF", () -> x.read(1, 0, n[0], 0, n[1]));
            Check.index(x, "READ, no READER", () -> x.read(4, 0, n[0], 0, n[1]));
        }
    }

    // One TAG in STATE 4 or 5 with that MODE of an AREA, told while it was SECURED.
    private static TagRounds locked(int area, int mode, int state) {
        TagRounds x = Check.inState(5);
        Check.same("LOCK", said(x, x.lock(0, x.tag(0, 5), area, mode)), x.tag(0, 5));
        if (state == 4) {
            x.nak(0);
            x.store(0, 0, 3, 4);
            Check.open(x, 1);
        }
        Check.same("STATE", x.tag(0, 2), state);
        return x;
    }

    private static void write() {
        Check.sentence("WRITE of a word: it is the value xor COVER; there is no COVER then (if it was written).");
        int[][] values = {{0, 0}, {0, 65535}, {65535, 0}, {65535, 65535}, {0x1234, 0xff00}};
        for (int[] v : values) {
            TagRounds x = Check.inState(5);
            int handle = x.tag(0, 5);
            x.seed(0, Draws.seedFor(v[1]));
            Check.same("COVER", Check.cover(x, handle), v[1]);
            Check.same("WRITE", said(x, x.write(0, handle, 3, 3, v[0])), handle);
            Check.same("value " + v[0] + ", COVER " + v[1], x.word(0, 3, 3), v[0] ^ v[1]);
            Check.same("no COVER then", x.tag(0, 6), -1);
            Check.same("so not again", said(x, x.write(0, handle, 3, 3, 0)), NO_COVER);
            Check.same("as it was", x.word(0, 3, 3), v[0] ^ v[1]);
        }
    }

    private static void writeOfShut() {
        Check.sentence("BANK 2, SUM and what is behind it may not (4), else what is of an AREA that is SHUT for it.");
        for (int bank = 0; bank < 4; bank++) {
            for (int word = -1; word <= LENGTHS[bank]; word++) {
                TagRounds x = Check.inState(5);
                int handle = x.tag(0, 5);
                boolean there = word >= 0 && word < LENGTHS[bank];
                boolean may = bank != 2 && (bank != 1 || word > 1);
                Check.same("word " + word + " of BANK " + bank, write(x, bank, word, 5), !there ? NO_WORDS : may ? handle : MAY_NOT);
                Check.same("COVER", x.tag(0, 6) == -1, there && may);
                if (there) {
                    Check.same("written or not", x.word(0, bank, word) == 5, may);
                }
            }
        }
        int[][] places = {{0, 0, 0}, {0, 1, 0}, {0, 2, 1}, {0, 3, 1}, {1, 2, 2}, {3, 0, 3}, {3, 3, 3}};
        for (int area = 0; area < 4; area++) {
            for (int mode = 0; mode < 4; mode++) {
                for (int state = 4; state < 6; state++) {
                    for (int[] p : places) {
                        TagRounds x = locked(area, mode, state);
                        boolean shut = p[2] == area && (mode == 3 || mode == 1 && state == 4);
                        String what = "word " + p[1] + " of BANK " + p[0] + ", AREA " + area + ", MODE " + mode + ", STATE " + state;
                        Check.same(what, write(x, p[0], p[1], 5), shut ? MAY_NOT : x.tag(0, 5));
                        Check.same(what, x.word(0, p[0], p[1]) == 5, !shut);
                    }
                }
            }
        }
    }

    private static void promise19() {
        Check.sentence("WRITE. IllegalArgumentException: BANK, value (0 to 65535) is none.");
        TagRounds x = Check.inState(5);
        int[][] none = {{-1, 0}, {4, 0}, {0, -1}, {0, 65536}, {Integer.MAX_VALUE, 0}, {3, Integer.MIN_VALUE}, {3, Integer.MAX_VALUE}};
        for (int[] n : none) {
            Check.argument(x, "WRITE", () -> x.write(0, x.tag(0, 5), n[0], 0, n[1]));
            Check.argument(x, "WRITE, OFF", () -> x.write(1, 0, n[0], 0, n[1]));
            Check.index(x, "WRITE, no READER", () -> x.write(-1, 0, n[0], 0, n[1]));
        }
        for (int far : new int[] {Integer.MIN_VALUE, Integer.MAX_VALUE, 256, 65536}) {
            Check.same("far off: " + far, write(x, 3, far, 1), NO_WORDS);
        }
    }

    private static void lock() {
        Check.sentence("LOCK: an AREA's MODE is told: just of a SECURED one (4); of MODE 2, 3 it may not be another one (4).");
        for (int area = 0; area < 4; area++) {
            for (int was = 0; was < 4; was++) {
                for (int mode = 0; mode < 4; mode++) {
                    TagRounds x = locked(area, was, 5);
                    int handle = x.tag(0, 5);
                    boolean may = was < 2 || was == mode;
                    Check.same("MODE " + mode + " of AREA " + area + " that was " + was, said(x, x.lock(0, handle, area, mode)), may ? handle : MAY_NOT);
                    for (int a = 0; a < 4; a++) {
                        Check.same("MODE of " + a, x.mode(0, a), a != area ? 0 : may ? mode : was);
                    }
                    TagRounds y = locked(area, was, 4);
                    Check.same("OPEN", said(y, y.lock(0, y.tag(0, 5), area, mode)), MAY_NOT);
                    Check.same("OPEN: as it was", y.mode(0, area), was);
                }
            }
        }
    }

    private static void promise20() {
        Check.sentence("LOCK. IllegalArgumentException: AREA, MODE is none.");
        TagRounds x = Check.inState(5);
        int[][] none = {{-1, 0}, {4, 0}, {0, -1}, {0, 4}, {Integer.MIN_VALUE, 0}, {Integer.MAX_VALUE, 0}, {3, Integer.MAX_VALUE}};
        for (int[] n : none) {
            Check.argument(x, "LOCK", () -> x.lock(0, x.tag(0, 5), n[0], n[1]));
            Check.argument(x, "LOCK, OFF", () -> x.lock(1, 0, n[0], n[1]));
            Check.index(x, "LOCK, no READER", () -> x.lock(4, 0, n[0], n[1]));
        }
    }

    private static void pass() {
        Check.sentence("PASS (for KILL or ACCESS): a half xor COVER (15 without one; there is none then): the upper half first, then the lower one.");
        for (int kill = 0; kill < 2; kill++) {
            TagRounds x = Check.inState(4);
            boolean k = kill == 1;
            int handle = x.tag(0, 5);
            Check.same("without a COVER", said(x, x.pass(0, handle, 3 - 2 * kill, k)), NO_COVER);
            Check.same("that was no half", x.tag(0, 12), 0);
            Check.same("upper half", said(x, half(x, 3 - 2 * kill, k)), handle);
            Check.same("no COVER then", x.tag(0, 6), -1);
            Check.same("the lower one is next", x.tag(0, 12), 1);
            Check.same("without a COVER", said(x, x.pass(0, handle, 4 - 2 * kill, k)), NO_COVER);
            Check.same("that was no half", x.tag(0, 12), 1);
            Check.same("lower half", said(x, half(x, 4 - 2 * kill, k)), handle);
            Check.same("the STATE", x.tag(0, 2), 5 + kill);
            Check.same("no COVER then", x.tag(0, 6), -1);
            Check.same("the upper one is next", x.tag(0, 12), 0);
            TagRounds turned = Check.inState(4);
            half(turned, 4 - 2 * kill, k);
            Check.same("the lower half first", half(turned, 3 - 2 * kill, k), 0);
            Check.same("it WAITS", turned.tag(0, 2), 1);
        }
        TagRounds secured = Check.inState(4);
        half(secured, 3, false);
        half(secured, 4, false);
        half(secured, 3, false);
        Check.same("one that is SECURED", half(secured, 4, false), 1);
        Check.same("stays so", secured.tag(0, 2), 5);
    }

    private static void halves() {
        Check.sentence("The first half alone is answered always.");
        for (int first : new int[] {0, 1, 2, 65535}) {
            for (int kill = 0; kill < 2; kill++) {
                for (int state = 4; state < 6; state++) {
                    TagRounds x = Check.inState(state);
                    Check.same("first half " + first, said(x, half(x, first, kill == 1)), x.tag(0, 5));
                    Check.same("stays so", x.tag(0, 2), state);
                }
            }
        }
        Check.sentence("Are they not right, it WAITS, without an answer.");
        for (int bit = 0; bit < 32; bit++) {
            for (int kill = 0; kill < 2; kill++) {
                TagRounds x = Check.inState(4);
                int[] halves = {3 - 2 * kill, 4 - 2 * kill};
                halves[bit / 16] ^= 1 << bit % 16;
                half(x, halves[0], kill == 1);
                int handle = x.tag(0, 5);
                int cover = Check.cover(x, handle);
                int now = x.count(1);
                Check.same("one bit is not right: " + bit, x.pass(0, handle, halves[1] ^ cover, kill == 1), 0);
                Check.same("no answer", x.heard(-1), 0);
                Check.same("ticks", x.count(1) - now, 5);
                Check.same("it WAITS", x.tag(0, 2), 1);
                Check.same("no HANDLE", x.tag(0, 5), -1);
                Check.same("the upper one is next", x.tag(0, 12), 0);
            }
        }
    }

    private static void promise21() {
        Check.sentence("PASS for KILL, or ACCESS. IllegalArgumentException: the half (0 to 65535) is none.");
        TagRounds x = Check.inState(4);
        for (int half : new int[] {-1, 65536, Integer.MIN_VALUE, Integer.MAX_VALUE}) {
            Check.argument(x, "PASS " + half, () -> x.pass(0, x.tag(0, 5), half, true));
            Check.argument(x, "PASS " + half + ", OFF", () -> x.pass(1, 0, half, false));
            Check.index(x, "PASS " + half + ", no READER", () -> x.pass(4, 0, half, false));
        }
        Check.same("the least half", x.pass(0, x.tag(0, 5), 0, true), 1);
        Check.same("the greatest half", x.pass(0, x.tag(0, 5), 65535, true), 1);
    }

    private static void rights() {
        Check.sentence("Are both right (as the words are when the lower one is told), and not both 0: of ACCESS it is SECURED, of KILL it is KILLED; it answers.");
        int[][] passwords = {{0, 0}, {1, 0}, {0, 1}, {65535, 65535}, {65535, 0}, {0, 65535}, {32768, 32768}};
        for (int[] p : passwords) {
            boolean zero = p[0] == 0 && p[1] == 0;
            for (int kill = 0; kill < 2; kill++) {
                TagRounds x = Check.inState(4);
                x.store(0, 0, 2 - 2 * kill, p[0]);
                half(x, p[0], kill == 1);
                x.store(0, 0, 3 - 2 * kill, p[1]);
                Check.same("password " + p[0] + ", " + p[1], half(x, p[1], kill == 1), zero ? 0 : 1);
                Check.same("STATE", x.tag(0, 2), zero ? 1 : 5 + kill);
                Check.same("KILLED", x.count(7), !zero && kill == 1 ? 1 : 0);
            }
        }
        TagRounds later = Check.inState(4);
        half(later, 9, true);
        later.store(0, 0, 0, 9);
        Check.same("right when the lower one is told", half(later, 2, true), 1);
        Check.same("KILLED", later.tag(0, 2), 6);
        TagRounds ahead = Check.inState(4);
        half(ahead, 1, true);
        ahead.store(0, 0, 0, 9);
        Check.same("right just when the upper one was told", half(ahead, 2, true), 0);
        Check.same("it WAITS", ahead.tag(0, 2), 1);
        TagRounds shut = locked(0, 3, 4);
        shut.store(0, 0, 0, 5);
        half(shut, 5, true);
        half(shut, 2, true);
        Check.same("an AREA that is SHUT has a password still", shut.tag(0, 2), 6);
    }

    private static void nextHalf() {
        Check.sentence("(Any command that it HEARS but RENEW and PASS for the same makes the next half the upper one; so does one that is behind a second half.)");
        for (int i = 0; i < 12; i++) {
            TagRounds x = Check.inState(4);
            half(x, 3, false);
            int handle = x.tag(0, 5);
            Check.same("the lower one is next", x.tag(0, 12), 1);
            switch (i) {
                case 0: x.select(0, 0, 0); break;
                case 1: x.query(0, 2, 0, 0, 0); break;
                case 2: x.adjust(0, 1, 0); break;
                case 3: x.next(0, 1); break;
                case 4: x.ack(0, handle); break;
                case 5: x.nak(0); break;
                case 6: x.read(0, handle ^ 1, 3, 0, 1); break;
                case 7: x.write(0, handle ^ 1, 3, 0, 1); break;
                case 8: x.lock(0, handle ^ 1, 0, 0); break;
                case 9: x.pass(0, handle ^ 1, 0, true); break;
                case 10: x.renew(0, handle ^ 1); break;
                default: x.pass(0, handle ^ 1, 0, false); break;
            }
            Check.same("the lower one is next behind command " + i, x.tag(0, 12), i < 10 ? 0 : 1);
        }
        TagRounds other = Check.inState(4);
        half(other, 3, false);
        half(other, 1, true);
        Check.same("a first half of the other", other.tag(0, 12), 1);
        Check.same("and its second", half(other, 2, true), 1);
        Check.same("KILLED", other.tag(0, 2), 6);
        TagRounds broken = Check.inState(4);
        half(broken, 3, false);
        broken.read(0, broken.tag(0, 5), 3, 0, 1);
        Check.same("the lower half as an upper one is answered", half(broken, 4, false), 1);
        Check.same("but OPEN still", broken.tag(0, 2), 4);
        TagRounds unheard = Check.inState(4);
        half(unheard, 3, false);
        unheard.power(1, true);
        unheard.nak(1);
        unheard.select(1, 0, 0);
        Check.same("not HEARD", unheard.tag(0, 12), 1);
        half(unheard, 4, false);
        Check.same("SECURED", unheard.tag(0, 2), 5);
        TagRounds second = Check.inState(4);
        half(second, 3, false);
        half(second, 4, false);
        Check.same("behind a second half", second.tag(0, 12), 0);
        half(second, 3, false);
        Check.same("a first one again", second.tag(0, 12), 1);
    }

    private static void words() {
        Check.sentence("A word of a BANK of a TAG.");
        TagRounds x = new TagRounds();
        x.add(0, 1, 0x12340000, 0);
        for (int bank = 0; bank < 4; bank++) {
            int b = bank;
            Check.same("the last", x.word(0, bank, LENGTHS[bank] - 1), new int[] {0, 0x1234, 0, 0}[bank]);
            for (int word : new int[] {-1, LENGTHS[bank], Integer.MIN_VALUE, Integer.MAX_VALUE}) {
                Check.index(x, "word " + word + " of BANK " + b, () -> x.word(0, b, word));
            }
            Check.index(x, "TAG 1", () -> x.word(1, b, 0));
            Check.index(x, "TAG -1", () -> x.word(-1, b, 0));
        }
        for (int bank : new int[] {-1, 4, Integer.MIN_VALUE, Integer.MAX_VALUE}) {
            Check.index(x, "BANK " + bank, () -> x.word(0, bank, 0));
        }
    }

    private static void modes() {
        TagRounds x = new TagRounds();
        x.add(0, 1, 0x12340000, 0);
        Check.sentence("MODE of an AREA of a TAG. IllegalArgumentException: there is no such AREA.");
        for (int area : new int[] {-1, 4, Integer.MIN_VALUE, Integer.MAX_VALUE}) {
            Check.argument(x, "AREA " + area, () -> x.mode(0, area));
            Check.index(x, "AREA " + area + " of no TAG", () -> x.mode(1, area));
        }
        Check.index(x, "TAG -1", () -> x.mode(-1, 0));
        Check.sentence("each of a MODE: 0 free (at first), 1 for SECURED ones, 2 free for good, 3 never");
        for (int area = 0; area < 4; area++) {
            Check.same("at first", x.mode(0, area), 0);
        }
        Check.sentence("SHUT: with MODE 1 for an OPEN one, with 3 for all.");
        for (int mode = 0; mode < 4; mode++) {
            for (int state = 4; state < 6; state++) {
                TagRounds y = locked(3, mode, state);
                Check.same("MODE " + mode + " in " + state, write(y, 3, 1, 8) == y.tag(0, 5), mode != 3 && (mode != 1 || state == 5));
            }
        }
    }

    public static void main(String[] args) {
        who();
        answers();
        codes();
        read();
        readOfShut();
        promise18();
        write();
        writeOfShut();
        promise19();
        lock();
        promise20();
        pass();
        rights();
        halves();
        nextHalf();
        promise21();
        words();
        modes();
        Check.end("EdgeAccessTest");
    }
}
