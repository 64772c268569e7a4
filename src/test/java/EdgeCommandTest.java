/** Terms 2 (STATE, SELECT to RENEW) and promises 10 to 17 and 22: each sentence that names an edge, in its own words. */
public final class EdgeCommandTest {
    private static final int COMMANDS = 11;

    // Each command once, with numbers that are in order.
    private static int command(TagRounds x, int reader, int kind) {
        switch (kind) {
            case 0: return x.select(reader, 0, 0);
            case 1: return x.query(reader, 0, 0, 0, 0);
            case 2: return x.adjust(reader, 2, 1);
            case 3: return x.next(reader, 2);
            case 4: return x.ack(reader, x.heard(0));
            case 5: return x.nak(reader);
            case 6: return x.renew(reader, x.tag(0, 4));
            case 7: return x.read(reader, x.tag(0, 5), 3, 0, 1);
            case 8: return x.write(reader, x.tag(0, 5), 3, 0, 1);
            case 9: return x.lock(reader, x.tag(0, 5), 0, 0);
            default: return x.pass(reader, x.tag(0, 5), 1, false);
        }
    }

    private static void refused() {
        Check.sentence("A command of a READER (refused, if it is OFF)");
        for (int kind = 0; kind < COMMANDS; kind++) {
            int k = kind;
            TagRounds x = Check.inState(5);
            Check.state(x, "OFF, command " + k, () -> command(x, 1, k));
            Check.index(x, "READER 4, command " + k, () -> command(x, 4, k));
            Check.index(x, "READER -1, command " + k, () -> command(x, -1, k));
            x.power(0, false);
            Check.state(x, "OFF again, command " + k, () -> command(x, 0, k));
            x.power(0, true);
            command(x, 0, k);
        }
        Check.sentence("IllegalStateException: it cannot be (a command: the READER is OFF, or NOW is 99999).");
        for (int kind = 0; kind < COMMANDS; kind++) {
            int k = kind;
            TagRounds x = Check.inState(5);
            Check.until(x, 99998);
            command(x, 0, k);
            Check.same("NOW", x.count(1), 99999);
            Check.state(x, "at the end, command " + k, () -> command(x, 0, k));
            x.power(0, false);
            Check.state(x, "OFF at the end, command " + k, () -> command(x, 0, k));
            Check.index(x, "no READER at the end, command " + k, () -> command(x, 4, k));
        }
    }

    private static void begins() {
        Check.sentence("is done by all TAGS that HEAR it as it begins, KILLED ones aside, by numbers");
        TagRounds x = Check.with(2);
        x.move(0, 3);
        x.power(1, true);
        x.time(0, 100);
        x.slice(1, 1, 1);
        Check.same("READER 1 is BUSY but from the next tick on", x.select(0, 2, 5), 2);
        Check.same("told", x.flag(0, 2) + x.flag(1, 2), 2);
        x.slice(1, 5, 1);
        Check.same("READER 1 is BUSY just as it begins", x.select(0, 3, 5), 1);
        Check.same("not told", x.flag(0, 3), 0);
        Check.same("the other is", x.flag(1, 3), 1);
        TagRounds killed = Check.inState(6);
        for (int kind = 0; kind < COMMANDS; kind++) {
            int seed = killed.seed(0, 7);
            killed.seed(0, seed);
            int now = killed.count(1);
            Check.same("KILLED: nothing by command " + kind, command(killed, 0, kind), 0);
            Check.same("KILLED: a DRAW by command " + kind, killed.seed(0, seed), seed);
            Check.same("KILLED: STATE behind command " + kind, killed.tag(0, 2), 6);
            Check.same("KILLED: FLAG behind command " + kind, killed.flag(0, 0), 0);
            int[] ticks = {5, 5, 3, 2, 3, 1, 5, 5, 5, 5, 5};
            Check.same("KILLED: ticks of command " + kind, killed.count(1) - now, ticks[kind]);
        }
        Check.same("KILLED: MATCHES for no SELECT", killed.select(0, 4, 0), 0);
        Check.same("KILLED: not PICKED", killed.flag(0, 4), 0);
    }

    // What a call takes of ticks, and what it answers.
    private static void took(String what, TagRounds x, int nowAhead, int answered, int answeredDue, int ticksDue) {
        Check.same(what + ": answer", answered, answeredDue);
        Check.same(what + ": ticks", x.count(1) - nowAhead, ticksDue);
    }

    // So many TAGS that do all alike, in this STATE.
    private static TagRounds alike(int tags, int state) {
        TagRounds x = Check.with(tags);
        for (int i = 0; i < tags; i++) {
            x.seed(i, state == 1 ? Draws.seedFor(1) : 1);
            x.store(i, 1, 2, 0x1234);
        }
        if (state == 1) {
            x.query(0, 0, 2, 0, 2);
        } else if (state > 1) {
            x.query(0, 0, 2, 0, 0);
        }
        if (state > 2) {
            x.ack(0, x.tag(0, 4));
        }
        if (state > 3) {
            x.renew(0, x.tag(0, 4));
        }
        return x;
    }

    private static void ticks() {
        Check.sentence("then the ticks that it takes go, and those of the answer: none: 1, one: 2 and its words, several: 2 (a CLASH)");
        for (int tags = 0; tags <= 3; tags++) {
            int answer = Math.min(2, tags);
            int[] ofOneWord = {1, 3, 2};
            TagRounds x = alike(tags, 0);
            int now = x.count(1);
            took("QUERY of " + tags, x, now, x.query(0, 0, 2, 0, 0), answer, 4 + ofOneWord[answer]);
            now = x.count(1);
            took("ADJUST of " + tags, x, now, x.adjust(0, 2, 0), answer, 2 + ofOneWord[answer]);
            TagRounds y = alike(tags, 1);
            now = y.count(1);
            took("NEXT of " + tags, y, now, y.next(0, 2), answer, 1 + ofOneWord[answer]);
            int number = tags == 0 ? 0 : y.tag(0, 4);
            now = y.count(1);
            took("ACK of " + tags, y, now, y.ack(0, number), answer, 2 + new int[] {1, 5, 2}[answer]);
            now = y.count(1);
            took("RENEW of " + tags, y, now, y.renew(0, number), answer, 4 + ofOneWord[answer]);
            int handle = tags == 0 ? 0 : y.tag(0, 5);
            now = y.count(1);
            took("RENEW by HANDLE of " + tags, y, now, y.renew(0, handle), answer, 4 + ofOneWord[answer]);
            now = y.count(1);
            took("WRITE of " + tags, y, now, y.write(0, handle, 3, 0, 9), answer, 4 + ofOneWord[answer]);
            now = y.count(1);
            took("LOCK of " + tags, y, now, y.lock(0, handle, 3, 1), answer, 4 + ofOneWord[answer]);
            now = y.count(1);
            took("PASS of " + tags, y, now, y.pass(0, handle, 9, true), answer, 4 + ofOneWord[answer]);
            for (int many = 1; many <= 4; many++) {
                now = y.count(1);
                took("READ of " + tags, y, now, y.read(0, handle, 3, 0, many), answer, 4 + new int[] {1, 3 + many, 2}[answer]);
            }
            now = y.count(1);
            took("READ of " + tags + ", a code", y, now, y.read(0, handle, 3, 4, 1), answer, 4 + ofOneWord[answer]);
            now = y.count(1);
            took("NAK of " + tags, y, now, y.nak(0), 0, 1);
            now = y.count(1);
            took("SELECT of " + tags, y, now, y.select(0, 0, 0), tags, 5);
        }
        for (int words = 1; words <= 4; words++) {
            TagRounds x = new TagRounds();
            x.add(1, words, 0x11112222, 0x33334444);
            x.power(0, true);
            x.query(0, 0, 0, 0, 0);
            int now = x.count(1);
            took("ACK with an EPC of " + words, x, now, x.ack(0, x.heard(0)), 1, 2 + 2 + 2 + words);
            Check.same("HEARD", x.heard(-1), 2 + words);
            Check.same("how many", x.heard(0), 2048 * words);
            for (int i = 0; i <= words; i++) {
                Check.same("EPC, SUM", x.heard(1 + i), i == words ? x.word(0, 1, 0) : 0x1111 * (i + 1));
            }
        }
    }

    private static void heard() {
        Check.sentence("HEARD is the latest answer, if there was just one: its words.");
        TagRounds x = alike(2, 0);
        x.move(1, 0);
        Check.same("one", x.query(0, 0, 2, 0, 0), 1);
        Check.same("one", x.heard(0), 32432);
        Check.same("nobody", x.adjust(0, 3, 0), 0);
        Check.same("nobody: how many", x.heard(-1), 0);
        Check.same("nobody: its word", x.heard(0), -1);
        x.adjust(0, 2, 0);
        Check.same("one again", x.heard(-1), 1);
        x.move(1, 1);
        x.seed(1, 1);
        Check.same("several", x.query(0, 0, 2, 0, 0), 2);
        Check.same("several: how many", x.heard(-1), 0);
        Check.same("several: its word", x.heard(0), -1);
        Check.sentence("(By SELECT and NAK nobody answers, no ticks go for that, HEARD stays.)");
        TagRounds y = alike(1, 3);
        Check.same("HEARD of the ACK", y.heard(-1), 3);
        int now = y.count(1);
        Check.same("NAK", y.nak(0), 0);
        Check.same("NAK: 1 tick", y.count(1), now + 1);
        Check.same("HEARD stays", y.heard(-1), 3);
        Check.same("HEARD stays", y.heard(1), 0x1234);
        Check.same("SELECT", y.select(0, 0, 0), 1);
        Check.same("SELECT: 5 ticks", y.count(1), now + 6);
        Check.same("HEARD stays", y.heard(-1), 3);
        Check.same("HEARD stays", y.heard(2), y.word(0, 1, 0));
        TagRounds fresh = Check.with(1);
        fresh.select(0, 0, 0);
        fresh.nak(0);
        Check.same("ahead of any answer", fresh.heard(-1), 0);
    }

    private static void promise22() {
        Check.sentence("Word k of HEARD; how many for k NONE (0 if not just one answered, and ahead of any command that is answered); NONE without.");
        Check.same("ahead of any", new TagRounds().heard(-1), 0);
        Check.same("ahead of any", new TagRounds().heard(0), -1);
        TagRounds z = new TagRounds();
        z.add(1, 4, 0x00010002, 0x00030004);
        z.power(0, true);
        z.query(0, 0, 0, 0, 0);
        z.ack(0, z.heard(0));
        int[] due = {8192, 1, 2, 3, 4, 49917};
        Check.same("how many", z.heard(-1), 6);
        for (int k = 0; k < 6; k++) {
            Check.same("word " + k, z.heard(k), due[k]);
        }
        for (int k : new int[] {6, 7, 8, -2, Integer.MIN_VALUE, Integer.MAX_VALUE}) {
            Check.same("without " + k, z.heard(k), -1);
        }
        z.ack(0, z.tag(0, 4) ^ 1);
        Check.same("none of the former answer", z.heard(0), -1);
    }

    private static void slots() {
        Check.sentence("To FLIP: its FLAG of its own SESSION is the other one.");
        for (int session = 0; session < 4; session++) {
            TagRounds x = Check.with(1);
            for (int i = 0; i < 3; i++) {
                Check.open(x, session);
                x.next(0, session);
                for (int f = 0; f < 5; f++) {
                    Check.same("flag " + f + " of SESSION " + session, x.flag(0, f), f == session ? (i + 1) % 2 : 0);
                }
            }
        }
        Check.sentence("To DRAW A SLOT with q: SLOT is the lowest q bits of a DRAW; is it 0, it REPLIES: NUMBER is a DRAW, and it answers that; else it WAITS.");
        int[][] drawn = {{0, 65535, 0}, {1, 65534, 0}, {1, 1, 1}, {14, 32768 + 16384, 0}, {14, 16383, 16383}, {15, 32768, 0}, {15, 65535, 32767}, {15, 16384, 16384}, {15, 0, 0}};
        for (int[] d : drawn) {
            TagRounds x = Check.with(1);
            int seed = Draws.seedFor(d[1]);
            x.seed(0, seed);
            Check.same("q " + d[0] + ", DRAW " + d[1], x.query(0, 0, 0, 0, d[0]), d[2] == 0 ? 1 : 0);
            Check.same("SLOT", x.tag(0, 3), d[2]);
            Check.same("STATE", x.tag(0, 2), d[2] == 0 ? 2 : 1);
            Check.same("NUMBER", x.tag(0, 4), d[2] == 0 ? new Draws(seed).skip(2) : -1);
            Check.same("HEARD", x.heard(0), d[2] == 0 ? new Draws(seed).skip(2) : -1);
            Draws two = new Draws(x.seed(0, 0));
            Check.same("DRAWS so far", two.next(), new Draws(seed).skip(d[2] == 0 ? 3 : 2));
        }
        for (int number : new int[] {0, 65535}) {
            TagRounds x = Check.with(1);
            x.seed(0, Draws.seedFor(0, 0, number));
            x.query(0, 0, 0, 0, 0);
            Check.same("NUMBER " + number, x.heard(0), number);
            Check.same("NUMBER " + number, x.tag(0, 4), number);
            Check.same("it is a NUMBER as any other", x.ack(0, number), 1);
            Check.same("it is KNOWN", x.tag(0, 2), 3);
        }
    }

    private static void matches(String what, TagRounds x, int[] m, int due) {
        x.mask(m[0], m[1], m[2], m[3]);
        Check.same(what, x.tag(0, 10), due);
        Check.same(what, x.count(10), due);
        Check.same(what + " by SELECT", x.select(0, 0, 1), due);
    }

    private static void masks() {
        Check.sentence("a BANK 1 to 3, a bit of it (0 the highest of its first word), LONG 0 to 31, BITS: a TAG MATCHES, if the BANK has these bits just there (with LONG 0 all do)");
        TagRounds x = new TagRounds();
        x.add(1, 1, 0xabcd0000, 0);
        x.power(0, true);
        x.store(0, 3, 0, 0x8001);
        x.store(0, 3, 1, 0x4000);
        x.store(0, 3, 3, 0x0001);
        matches("bit 0 is the highest", x, new int[] {3, 0, 1, 1}, 1);
        matches("bit 0 is the highest", x, new int[] {3, 0, 2, 2}, 1);
        matches("bit 0, not so", x, new int[] {3, 0, 1, 0}, 0);
        matches("bit 15 is the lowest", x, new int[] {3, 15, 1, 1}, 1);
        matches("bit 14 is not", x, new int[] {3, 14, 1, 1}, 0);
        matches("over two words", x, new int[] {3, 14, 4, 0b0101}, 1);
        matches("over two words, not so", x, new int[] {3, 14, 4, 0b0111}, 0);
        matches("just there, not one bit on", x, new int[] {3, 15, 4, 0b0101}, 0);
        matches("the last bit", x, new int[] {3, 63, 1, 1}, 1);
        matches("the last bit, not so", x, new int[] {3, 63, 1, 0}, 0);
        matches("a bit beyond", x, new int[] {3, 63, 2, 2}, 0);
        matches("a bit beyond", x, new int[] {3, 63, 2, 3}, 0);
        matches("behind the last", x, new int[] {3, 64, 1, 0}, 0);
        matches("behind the last", x, new int[] {3, 64, 1, 1}, 0);
        matches("far behind", x, new int[] {3, 255, 31, 0}, 0);
        matches("LONG 31", x, new int[] {3, 33, 31, 1}, 1);
        matches("LONG 31", x, new int[] {3, 32, 31, 0}, 1);
        matches("LONG 31, one beyond", x, new int[] {3, 34, 31, 2}, 0);
        matches("LONG 31, the highest bit", x, new int[] {3, 0, 31, 0x8001 << 15 | 0x2000}, 1);
        matches("LONG 31, the lowest bit is not so", x, new int[] {3, 0, 31, 0x8001 << 15 | 0x2001}, 0);
        matches("LONG 0, no bit is asked", x, new int[] {3, 0, 0, -1}, 1);
        matches("LONG 0, beyond the end", x, new int[] {3, 255, 0, 0}, 1);
        matches("LONG 0, BANK 2", x, new int[] {2, 255, 0, 0}, 1);
        matches("BANK 1", x, new int[] {1, 32, 16, 0xabcd}, 1);
        matches("BANK 1, its end", x, new int[] {1, 47, 1, 1}, 1);
        matches("BANK 1, beyond its end", x, new int[] {1, 48, 1, 0}, 0);
        matches("BANK 1, SUM", x, new int[] {1, 0, 16, x.word(0, 1, 0)}, 1);
        matches("BANK 1, how many", x, new int[] {1, 16, 16, 2048}, 1);
        matches("BANK 2", x, new int[] {2, 0, 31, 57856 << 15}, 1);
        matches("BANK 2, its end", x, new int[] {2, 31, 1, 0}, 1);
        matches("BANK 2, beyond its end", x, new int[] {2, 32, 1, 0}, 0);
    }

    private static void promise10() {
        TagRounds x = new TagRounds();
        x.add(1, 1, 0xabcd0000, 0);
        x.power(0, true);
        x.store(0, 3, 0, 0x8001);
        x.store(0, 3, 3, 0x0001);
        Check.sentence("The MASK is told (at first BANK 1, bit 0, LONG 0): of BITS the lowest LONG ones.");
        matches("just the lowest", x, new int[] {1, 32, 16, 0xffffabcd}, 1);
        matches("just the lowest one", x, new int[] {3, 0, 1, -1}, 1);
        matches("just the lowest 31", x, new int[] {3, 33, 31, Integer.MIN_VALUE | 1}, 1);
        TagRounds fresh = Check.with(1);
        fresh.select(0, 0, 0);
        String bits = "1010" + "000" + "000" + "01" + "00000000" + "00000000";
        Check.text("at first", Check.sent(fresh), bits + Model.bits(Model.check16(bits), 16));
        Check.sentence("IllegalArgumentException: BANK, bit (0 to 255), LONG is none.");
        fresh.mask(3, 255, 31, 0x2aaaaaaa);
        int[][] none = {{0, 0, 0}, {4, 0, 0}, {-1, 0, 0}, {Integer.MAX_VALUE, 0, 0}, {1, -1, 0}, {1, 256, 0}, {1, Integer.MIN_VALUE, 0}, {1, 0, -1}, {1, 0, 32}, {1, 0, Integer.MAX_VALUE}};
        for (int[] n : none) {
            Check.argument(fresh, "mask " + n[0] + ", " + n[1] + ", " + n[2], () -> fresh.mask(n[0], n[1], n[2], 0));
        }
        fresh.select(0, 0, 0);
        bits = "1010" + "000" + "000" + "11" + "11111111" + "00011111" + "0101010101010101010101010101010";
        Check.text("as it was told, refusals aside", Check.sent(fresh), bits + Model.bits(Model.check16(bits), 16));
    }

    // FLAG f of one that MATCHES and of one that does not, behind ACTION, from 0 and from 1.
    private static void select() {
        Check.sentence("0: 0, 1. 1: 0, none. 2: none, 1. 3: flip, none. 4: 1, 0. 5: 1, none. 6: none, 0. 7: none, flip.");
        String[] table = {"01", "0.", ".1", "x.", "10", "1.", ".0", ".x"};
        for (int f = 0; f < 5; f++) {
            for (int action = 0; action < 8; action++) {
                for (int was = 0; was < 2; was++) {
                    TagRounds x = Check.with(2);
                    x.select(0, f, (was == 1) == (f == 4) ? 1 : 5);
                    x.mask(1, 32, 16, 0x1234);
                    Check.same("MATCHED", x.select(0, f, action), 1);
                    for (int t = 0; t < 2; t++) {
                        char c = table[action].charAt(t);
                        int due = c == '.' ? was : c == 'x' ? 1 - was : (c - '0') ^ (f == 4 ? 1 : 0);
                        Check.same("flag " + f + " of TAG " + t + ", ACTION " + action + " from " + was, x.flag(t, f), due);
                    }
                }
            }
        }
    }

    private static void selectReady() {
        Check.sentence("(0, 1: the FLAG of a SESSION is told A, B; of PICKED it is the other way round: 0 tells 1, 1 tells 0.)");
        TagRounds x = Check.with(1);
        x.select(0, 3, 5);
        Check.same("B", x.flag(0, 3), 1);
        x.select(0, 3, 1);
        Check.same("A", x.flag(0, 3), 0);
        x.select(0, 4, 5);
        Check.same("not PICKED", x.flag(0, 4), 0);
        x.select(0, 4, 1);
        Check.same("PICKED", x.flag(0, 4), 1);
        x.select(0, 4, 3);
        Check.same("flipped", x.flag(0, 4), 0);
        Check.sentence("All are READY.");
        for (int state = 0; state < 6; state++) {
            TagRounds y = Check.inState(state);
            y.mask(1, 32, 16, 0xffff);
            Check.same("MATCHES not", y.select(0, 0, 1), 0);
            Check.same("READY from " + state, y.tag(0, 2), 0);
            Check.same("FLAG", y.flag(0, 0), 0);
        }
    }

    private static void promise11() {
        Check.sentence("SELECT: how many TAGS MATCHED of those that did it. IllegalArgumentException: FLAG (0 to 4) or ACTION (0 to 7) is none; IllegalStateException: it cannot be.");
        TagRounds many = new TagRounds();
        for (int i = 0; i < 16; i++) {
            Check.same("so many did it", i == 0 ? 0 : many.select(0, 0, 0), i);
            many.add(1, 1, i << 16, 0);
            many.power(0, true);
        }
        Check.same("16 did it", many.select(0, 0, 0), 16);
        many.move(15, 2);
        many.mask(1, 47, 1, 1);
        Check.same("of those that did it", many.select(0, 4, 7), 7);
        int[][] none = {{-1, 0}, {5, 0}, {0, -1}, {0, 8}, {Integer.MIN_VALUE, 0}, {4, Integer.MAX_VALUE}};
        for (int[] n : none) {
            Check.argument(many, "select " + n[0] + ", " + n[1], () -> many.select(0, n[0], n[1]));
            Check.argument(many, "select " + n[0] + ", " + n[1] + ", OFF", () -> many.select(1, n[0], n[1]));
            Check.index(many, "select " + n[0] + ", " + n[1] + ", no READER", () -> many.select(4, n[0], n[1]));
        }
        Check.state(many, "OFF", () -> many.select(3, 4, 7));
    }

    private static void query() {
        Check.sentence("one that is KNOWN, OPEN, SECURED and of that SESSION FLIPS");
        for (int state = 0; state < 6; state++) {
            TagRounds x = Check.inState(state);
            x.query(0, 0, 2, 0, 0);
            Check.same("flag 2 from " + state, x.flag(0, 2), state > 2 ? 1 : 0);
            Check.same("REPLIES or is READY from " + state, x.tag(0, 2), state > 2 ? 0 : 2);
            TagRounds y = Check.inState(state);
            y.query(0, 0, 3, 0, 0);
            Check.same("of another SESSION, from " + state, y.flag(0, 2) + y.flag(0, 3), 0);
            Check.same("REPLIES", y.tag(0, 2), 2);
            Check.same("of the SESSION", y.tag(0, 7), 3);
        }
        Check.sentence("Then those of which, whose FLAG of that SESSION is TARGET, are of that SESSION, with Q q, and DRAW A SLOT; others are READY.");
        for (int which = 0; which < 3; which++) {
            for (int target = 0; target < 2; target++) {
                TagRounds x = Check.with(4);
                x.mask(1, 46, 1, 0);
                x.select(0, 4, 0);
                x.mask(1, 47, 1, 0);
                x.select(0, 1, 4);
                x.query(0, which, 1, target, 15);
                for (int t = 0; t < 4; t++) {
                    boolean picked = x.flag(t, 4) == 1;
                    boolean b = x.flag(t, 1) == 1;
                    boolean due = (which == 0 || picked == (which == 2)) && b == (target == 1);
                    Check.same("STATE of " + t + ", which " + which + ", TARGET " + target, x.tag(t, 2), due ? 1 : 0);
                    Check.same("its Q", x.tag(t, 8), due ? 15 : -1);
                    Check.same("its SESSION", x.tag(t, 7), due ? 1 : -1);
                }
                Check.same("each kind once", x.flag(0, 4) + x.flag(1, 4) + x.flag(2, 4) + x.flag(3, 4), 2);
            }
        }
        for (int state = 1; state < 6; state++) {
            TagRounds x = Check.inState(state);
            x.query(0, 2, 3, 0, 0);
            Check.same("READY from " + state, x.tag(0, 2), 0);
        }
    }

    private static void promise12() {
        Check.sentence("QUERY: 0 nobody answered, 1 one, 2 several (as of all below). IllegalArgumentException: a number is none.");
        TagRounds x = new TagRounds();
        x.power(0, true);
        for (int tags = 0; tags <= 16; tags++) {
            Check.same("with " + tags, x.query(0, 0, 0, 0, 0), Math.min(2, tags));
            if (tags < 16) {
                x.add(1, 1, 0, 0);
            }
        }
        Check.sentence("QUERY (4 ticks): which (0 all, 1 not PICKED, 2 PICKED), SESSION 0 to 3, TARGET A or B, q 0 to 15");
        Check.same("the least numbers", x.query(0, 0, 0, 0, 0), 2);
        Check.same("the greatest numbers", x.query(0, 2, 3, 1, 15), 0);
        int[][] none = {{-1, 0, 0, 0}, {3, 0, 0, 0}, {0, -1, 0, 0}, {0, 4, 0, 0}, {0, 0, -1, 0}, {0, 0, 2, 0}, {0, 0, 0, -1}, {0, 0, 0, 16},
            {Integer.MIN_VALUE, 0, 0, 0}, {0, Integer.MAX_VALUE, 0, 0}, {0, 0, Integer.MIN_VALUE, 0}, {0, 0, 0, Integer.MAX_VALUE}};
        for (int[] n : none) {
            Check.argument(x, "query", () -> x.query(0, n[0], n[1], n[2], n[3]));
            Check.argument(x, "query, OFF", () -> x.query(1, n[0], n[1], n[2], n[3]));
            Check.index(x, "query, no READER", () -> x.query(4, n[0], n[1], n[2], n[3]));
        }
    }

    private static void steps() {
        Check.sentence("those that WAIT, REPLY: Q is up more (0 to 15 at most), they DRAW A SLOT with it");
        for (int q = 0; q < 16; q++) {
            for (int up = -1; up <= 1; up++) {
                TagRounds x = Check.with(1);
                x.query(0, 0, 2, 0, q);
                int due = Math.max(0, Math.min(15, q + up));
                x.seed(0, Draws.seedFor(65535));
                x.adjust(0, 2, up);
                Check.same("Q of " + q + " and " + up, x.tag(0, 8), due);
                Check.same("SLOT with it", x.tag(0, 3), (1 << due) - 1);
                Check.same("it WAITS or REPLIES", x.tag(0, 2), due == 0 ? 2 : 1);
                x.adjust(0, 1, 1);
                Check.same("another SESSION", x.tag(0, 8), due);
            }
        }
    }

    private static void stepsOfKnown() {
        for (int kind = 2; kind < 4; kind++) {
            Check.sentence(kind == 2 ? "ADJUST (2 ticks): SESSION, up -1, 0, 1: of those of that SESSION: KNOWN, OPEN, SECURED ones FLIP and are READY;"
                : "NEXT (1 tick): SESSION: of those of that SESSION: KNOWN, OPEN, SECURED ones FLIP and are READY;");
            for (int state = 3; state < 6; state++) {
                TagRounds x = Check.inState(state);
                step(x, kind, 3);
                Check.same("another SESSION", x.tag(0, 2), state);
                Check.same("another SESSION", x.flag(0, 2) + x.flag(0, 3), 0);
                step(x, kind, 2);
                Check.same("READY from " + state, x.tag(0, 2), 0);
                Check.same("flipped", x.flag(0, 2), 1);
                Check.same("not the other FLAG", x.flag(0, 3), 0);
                step(x, kind, 2);
                Check.same("READY ones do nothing", x.flag(0, 2), 1);
            }
        }
    }

    private static void countsDown() {
        Check.sentence("SLOT is 1 less (behind 0 it is 32767); is it 0, it REPLIES: NUMBER is a DRAW, it answers that; else it WAITS.");
        TagRounds x = Check.inState(1);
        Check.same("SLOT", x.tag(0, 3), 2);
        Check.same("another SESSION", x.next(0, 1), 0);
        Check.same("SLOT", x.tag(0, 3), 2);
        Check.same("not yet", x.next(0, 2), 0);
        Check.same("SLOT", x.tag(0, 3), 1);
        int seed = x.seed(0, 5);
        x.seed(0, seed);
        Check.same("now", x.next(0, 2), 1);
        Check.same("SLOT", x.tag(0, 3), 0);
        Check.same("NUMBER", x.heard(0), new Draws(seed).next());
        Check.same("REPLIES", x.tag(0, 2), 2);
        Check.same("behind 0", x.next(0, 2), 0);
        Check.same("SLOT behind 0", x.tag(0, 3), 32767);
        Check.same("it WAITS", x.tag(0, 2), 1);
        Check.same("no NUMBER", x.tag(0, 4), -1);
        x.next(0, 2);
        Check.same("and on", x.tag(0, 3), 32766);
        TagRounds waits = Check.inState(2);
        waits.nak(0);
        Check.same("one that WAITS with SLOT 0", waits.tag(0, 3), 0);
        waits.next(0, 2);
        Check.same("behind 0", waits.tag(0, 3), 32767);
    }

    private static void promises13and14() {
        TagRounds x = Check.inState(1);
        Check.sentence("`int adjust(int reader, int session, int up) throws IndexOutOfBoundsException, IllegalArgumentException, IllegalStateException`: ADJUST.");
        for (int n : new int[] {-1, 4, Integer.MIN_VALUE, Integer.MAX_VALUE}) {
            Check.argument(x, "SESSION " + n, () -> x.adjust(0, n, 0));
            Check.argument(x, "SESSION " + n + ", OFF", () -> x.adjust(1, n, 0));
            Check.index(x, "SESSION " + n + ", no READER", () -> x.adjust(4, n, 0));
        }
        for (int n : new int[] {-2, 2, Integer.MIN_VALUE, Integer.MAX_VALUE}) {
            Check.argument(x, "up " + n, () -> x.adjust(0, 2, n));
        }
        Check.sentence("`int next(int reader, int session) throws IndexOutOfBoundsException, IllegalArgumentException, IllegalStateException`: NEXT.");
        for (int n : new int[] {-1, 4, Integer.MIN_VALUE, Integer.MAX_VALUE}) {
            Check.argument(x, "SESSION " + n, () -> x.next(0, n));
            Check.argument(x, "SESSION " + n + ", OFF", () -> x.next(1, n));
            Check.index(x, "SESSION " + n + ", no READER", () -> x.next(-1, n));
        }
    }

    private static void step(TagRounds x, int kind, int session) {
        if (kind == 2) {
            x.adjust(0, session, 0);
        } else {
            x.next(0, session);
        }
    }

    private static void ack() {
        Check.sentence("one that REPLIES or is KNOWN with that NUMBER is KNOWN, one that is OPEN, SECURED with that HANDLE stays so: it answers");
        for (int state = 0; state < 6; state++) {
            TagRounds x = Check.inState(state);
            int own = x.tag(0, state < 4 ? 4 : 5);
            boolean answers = state > 1;
            Check.same("its own, in " + state, x.ack(0, own), answers ? 1 : 0);
            Check.same("STATE from " + state, x.tag(0, 2), state == 2 ? 3 : state);
            Check.same("its number stays", x.tag(0, state < 4 ? 4 : 5), own);
        }
        Check.sentence("Others that REPLY, are KNOWN, OPEN, SECURED WAIT.");
        for (int state = 0; state < 6; state++) {
            for (int unlike : new int[] {1, 65536, -65536, Integer.MIN_VALUE}) {
                TagRounds x = Check.inState(state);
                Check.same("another number, in " + state, x.ack(0, x.tag(0, state < 4 ? 4 : 5) ^ unlike), 0);
                Check.same("STATE from " + state, x.tag(0, 2), state > 1 ? 1 : state);
            }
        }
    }

    private static void nak() {
        Check.sentence("NAK (1 tick): those that REPLY, are KNOWN, OPEN, SECURED WAIT.");
        for (int state = 0; state < 6; state++) {
            TagRounds x = Check.inState(state);
            int slot = x.tag(0, 3);
            x.nak(0);
            Check.same("STATE from " + state, x.tag(0, 2), state > 1 ? 1 : state);
            Check.same("SLOT", x.tag(0, 3), state > 1 ? 0 : slot);
            Check.same("SESSION", x.tag(0, 7), state == 0 ? -1 : 2);
            Check.same("Q", x.tag(0, 8), state == 0 ? -1 : state == 1 ? 2 : 0);
        }
    }

    private static void renew() {
        Check.sentence("one that is KNOWN with that NUMBER: HANDLE is a DRAW, it answers that; it is SECURED, if ACCESS is 0, else OPEN.");
        int[][] access = {{0, 0, 5}, {1, 0, 4}, {0, 1, 4}, {65535, 65535, 4}, {32768, 0, 4}, {0, 32768, 4}};
        for (int[] a : access) {
            TagRounds x = Check.with(1);
            x.store(0, 0, 0, 7);
            x.store(0, 0, 2, a[0]);
            x.store(0, 0, 3, a[1]);
            int handle = Check.open(x, 1);
            Check.same("STATE with ACCESS " + a[0] + ", " + a[1], x.tag(0, 2), a[2]);
            Check.same("HANDLE", handle, new Draws(1).skip(3));
            Check.same("no COVER", x.tag(0, 6), -1);
            x.store(0, 0, 2, 1 - a[0] / 65535);
            Check.same("as ACCESS was then", x.tag(0, 2), a[2]);
        }
        for (int number : new int[] {0, 65535}) {
            TagRounds x = Check.inState(3);
            x.seed(0, Draws.seedFor(number));
            Check.same("RENEW", x.renew(0, x.tag(0, 4)), 1);
            Check.same("HANDLE " + number, x.tag(0, 5), number);
            x.seed(0, Draws.seedFor(65535 - number));
            Check.same("RENEW", x.renew(0, number), 1);
            Check.same("COVER " + (65535 - number), x.tag(0, 6), 65535 - number);
            Check.same("a COVER as any other", x.write(0, number, 3, 0, 5), 1);
            Check.same("written", x.word(0, 3, 0), 5 ^ 65535 - number);
        }
    }

    // Numbers of these commands are never refused, whatever they are.
    private static void promises15to17() {
        for (int kind = 4; kind < 7; kind++) {
            String[] told = {"`int ack(int reader, int number) throws IndexOutOfBoundsException, IllegalStateException`: ACK.",
                "`int nak(int reader) throws IndexOutOfBoundsException, IllegalStateException`: NAK.",
                "`int renew(int reader, int number) throws IndexOutOfBoundsException, IllegalStateException`: RENEW."};
            Check.sentence(told[kind - 4]);
            for (int number : new int[] {-1, 65536, Integer.MIN_VALUE, Integer.MAX_VALUE}) {
                int k = kind;
                TagRounds x = Check.inState(3);
                Check.index(x, "READER 4", () -> numbered(x, 4, k, number));
                Check.index(x, "READER " + number, () -> numbered(x, number, k, number));
                Check.state(x, "OFF", () -> numbered(x, 3, k, number));
                Check.same("nobody has " + number, numbered(x, 0, k, number), 0);
                Check.same("it WAITS", x.tag(0, 2), 1);
                Check.until(x, 99999);
                Check.state(x, "at the end", () -> numbered(x, 0, k, number));
            }
        }
    }

    private static int numbered(TagRounds x, int reader, int kind, int number) {
        if (kind == 5) {
            return x.nak(reader);
        }
        return kind == 4 ? x.ack(reader, number) : x.renew(reader, number);
    }

    private static void covers() {
        Check.sentence("OPEN, SECURED with that HANDLE: COVER is a DRAW, it answers that. Others that REPLY, are KNOWN WAIT.");
        for (int state = 0; state < 6; state++) {
            for (int unlike : new int[] {1, 65536, Integer.MIN_VALUE}) {
                TagRounds x = Check.inState(state);
                int own = x.tag(0, state < 4 ? 4 : 5);
                Check.same("another number, in " + state, x.renew(0, own ^ unlike), 0);
                Check.same("STATE from " + state, x.tag(0, 2), state == 2 || state == 3 ? 1 : state);
                Check.same("no COVER", x.tag(0, 6), -1);
            }
        }
        TagRounds replies = Check.inState(2);
        Check.same("REPLIES with that NUMBER", replies.renew(0, replies.tag(0, 4)), 0);
        Check.same("it WAITS", replies.tag(0, 2), 1);
        for (int state = 4; state < 6; state++) {
            TagRounds x = Check.inState(state);
            int handle = x.tag(0, 5);
            int first = Check.cover(x, handle);
            Check.same("COVER", x.tag(0, 6), first);
            int second = Check.cover(x, handle);
            Check.same("COVER anew", x.tag(0, 6), second);
            Check.same("unlike", first != second, true);
            Check.same("stays so", x.tag(0, 2), state);
            Check.same("HANDLE stays", x.tag(0, 5), handle);
        }
    }

    public static void main(String[] args) {
        refused();
        begins();
        ticks();
        heard();
        promise22();
        slots();
        masks();
        promise10();
        select();
        selectReady();
        promise11();
        query();
        promise12();
        steps();
        stepsOfKnown();
        countsDown();
        promises13and14();
        ack();
        nak();
        renew();
        covers();
        promises15to17();
        Check.end("EdgeCommandTest");
    }
}
