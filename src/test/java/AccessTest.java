/** Promises 18 to 21, 33 and 34: READ, WRITE, LOCK, PASS, words and MODES. */
public final class AccessTest {
    private static final int NO_WORDS = 65539;
    private static final int MAY_NOT = 65540;
    private static final int NO_COVER = 65551;

    private static TagRounds withPasswords() {
        TagRounds x = Check.with(1);
        for (int i = 0; i < 4; i++) {
            x.store(0, 0, i, 17 * (i + 1));
            x.store(0, 3, i, 1000 + i);
        }
        return x;
    }

    // Without ACCESS to give it is SECURED at once.
    private static TagRounds secured() {
        return Check.with(1);
    }

    private static int answered(TagRounds x, int outcome) {
        return outcome == 1 && x.heard(-1) == 1 ? x.heard(0) : -1;
    }

    private static void promise18() {
        TagRounds x = withPasswords();
        int h = Check.open(x, 2);
        int before = x.count(1);
        Check.same("18 read", x.read(0, h, 3, 1, 3), 1);
        Check.same("18 ticks", x.count(1), before + 4 + 2 + 4);
        Check.same("18 words", x.heard(-1), 4);
        Check.same("18 HANDLE", x.heard(0), h);
        for (int i = 1; i < 4; i++) {
            Check.same("18 word", x.heard(i), 1000 + i);
        }
        Check.same("18 too far", answered(x, x.read(0, h, 3, 1, 4)), NO_WORDS);
        Check.same("18 code takes one word", x.count(1), before + 4 + 2 + 4 + 4 + 3);
        Check.same("18 ahead", answered(x, x.read(0, h, 3, -1, 1)), NO_WORDS);
        Check.same("18 far", answered(x, x.read(0, h, 0, Integer.MAX_VALUE, 4)), NO_WORDS);
        Check.same("18 far", answered(x, x.read(0, h, 0, Integer.MIN_VALUE, 4)), NO_WORDS);
        Check.same("18 bank 2", answered(x, x.read(0, h, 2, 2, 1)), NO_WORDS);
        Check.same("18 bank 1", answered(x, x.read(0, h, 1, 0, 4)), NO_WORDS);
        Check.same("18 bank 1", x.read(0, h, 1, 0, 3), 1);
        Check.same("18 SUM", x.heard(1), x.word(0, 1, 0));
        Check.same("18 bank 2", x.read(0, h, 2, 0, 2), 1);
        Check.same("18 maker", x.heard(1), 57856);
        Check.same("18 another HANDLE", x.read(0, h ^ 1, 3, 0, 1), 0);
        Check.same("18 it stays OPEN", x.tag(0, 2), 4);
        Check.same("18 another HANDLE", x.read(0, h + 65536, 3, 0, 1), 0);
        x.read(0, h, 2, 1, 1);
        String bits = "11000010" + "10" + "00000001" + "00000001" + Model.bits(h, 16);
        Check.text("18 sent", Check.sent(x), bits + Model.bits(Model.check16(bits), 16));
        promise18Waits();
        Check.index(x, "18 reader", () -> x.read(4, 0, 4, 0, 1));
        Check.argument(x, "18 bank", () -> x.read(1, 0, 4, 0, 1));
        Check.argument(x, "18 bank", () -> x.read(0, 0, -1, 0, 1));
        Check.argument(x, "18 many", () -> x.read(0, 0, 0, 0, 0));
        Check.argument(x, "18 many", () -> x.read(0, 0, 0, 0, 5));
        Check.state(x, "18 OFF", () -> x.read(1, 0, 0, 0, 1));
    }

    private static void promise18Waits() {
        TagRounds x = Check.with(1);
        x.query(0, 0, 0, 0, 0);
        Check.same("18 one that REPLIES", x.read(0, x.tag(0, 4), 3, 0, 1), 0);
        Check.same("18 WAITS", x.tag(0, 2), 1);
        x.query(0, 0, 0, 0, 0);
        x.ack(0, x.heard(0));
        Check.same("18 one that is KNOWN", x.read(0, x.tag(0, 4), 3, 0, 1), 0);
        Check.same("18 WAITS", x.tag(0, 2), 1);
    }

    private static void promise19() {
        TagRounds x = withPasswords();
        int h = Check.open(x, 2);
        Check.same("19 no COVER", answered(x, x.write(0, h, 3, 0, 5)), NO_COVER);
        int c = Check.cover(x, h);
        Check.same("19 no such word", answered(x, x.write(0, h, 3, 4, 5)), NO_WORDS);
        Check.same("19 no such word", answered(x, x.write(0, h, 2, 2, 5)), NO_WORDS);
        Check.same("19 no such word", answered(x, x.write(0, h, 1, 3, 5)), NO_WORDS);
        Check.same("19 no such word", answered(x, x.write(0, h, 0, -1, 5)), NO_WORDS);
        Check.same("19 may not", answered(x, x.write(0, h, 2, 0, 5)), MAY_NOT);
        Check.same("19 may not", answered(x, x.write(0, h, 2, 1, 5)), MAY_NOT);
        Check.same("19 may not", answered(x, x.write(0, h, 1, 0, 5)), MAY_NOT);
        Check.same("19 may not", answered(x, x.write(0, h, 1, 1, 5)), MAY_NOT);
        Check.same("19 COVER still", x.tag(0, 6), c);
        int before = x.count(1);
        Check.same("19 write", answered(x, x.write(0, h, 3, 2, 777 ^ c)), h);
        Check.same("19 ticks", x.count(1), before + 4 + 3);
        String bits = "11000011" + "11" + "00000010" + Model.bits(777 ^ c, 16) + Model.bits(h, 16);
        Check.text("19 sent", Check.sent(x), bits + Model.bits(Model.check16(bits), 16));
        Check.same("19 written", x.word(0, 3, 2), 777);
        Check.same("19 COVER gone", x.tag(0, 6), -1);
        Check.same("19 no COVER", answered(x, x.write(0, h, 3, 2, 777)), NO_COVER);
        c = Check.cover(x, h);
        Check.same("19 EPC", answered(x, x.write(0, h, 1, 2, 0xbeef ^ c)), h);
        Check.same("19 SUM", x.word(0, 1, 0), Model.check16(Model.bits(2048, 16) + Model.bits(0xbeef, 16)));
        c = Check.cover(x, h);
        Check.same("19 value 0", answered(x, x.write(0, h, 3, 3, 0)), h);
        Check.same("19 value 0", x.word(0, 3, 3), c);
        c = Check.cover(x, h);
        Check.same("19 value 65535", answered(x, x.write(0, h, 3, 3, 65535)), h);
        Check.same("19 value 65535", x.word(0, 3, 3), 65535 - c);
        c = Check.cover(x, h);
        Check.same("19 KILL", answered(x, x.write(0, h, 0, 1, 4 ^ c)), h);
        Check.same("19 KILL", x.word(0, 0, 1), 4);
        Check.same("19 another HANDLE", x.write(0, h ^ 1, 3, 0, 1), 0);
        Check.index(x, "19 reader", () -> x.write(-1, 0, 0, 0, -1));
        Check.argument(x, "19 bank", () -> x.write(1, 0, 4, 0, 1));
        Check.argument(x, "19 bank", () -> x.write(0, 0, -1, 0, 1));
        Check.argument(x, "19 value", () -> x.write(0, 0, 0, 0, -1));
        Check.argument(x, "19 value", () -> x.write(0, 0, 0, 0, 65536));
        Check.state(x, "19 OFF", () -> x.write(1, 0, 0, 0, 1));
    }

    private static void promise20() {
        TagRounds x = withPasswords();
        int h = Check.open(x, 2);
        Check.same("20 not SECURED", answered(x, x.lock(0, h, 0, 0)), MAY_NOT);
        TagRounds y = secured();
        h = Check.open(y, 2);
        for (int area = 0; area < 4; area++) {
            for (int mode : new int[] {1, 0, 2}) {
                int before = y.count(1);
                Check.same("20 lock", answered(y, y.lock(0, h, area, mode)), h);
                Check.same("20 ticks", y.count(1), before + 7);
                Check.same("20 mode", y.mode(0, area), mode);
            }
            Check.same("20 for good", answered(y, y.lock(0, h, area, 3)), MAY_NOT);
            Check.same("20 for good", answered(y, y.lock(0, h, area, 0)), MAY_NOT);
            Check.same("20 the same", answered(y, y.lock(0, h, area, 2)), h);
            Check.same("20 mode", y.mode(0, area), 2);
        }
        String bits = "11000101" + "11" + "10" + Model.bits(h, 16);
        Check.text("20 sent", Check.sent(y), bits + Model.bits(Model.check16(bits), 16));
        Check.same("20 another HANDLE", y.lock(0, h ^ 1, 0, 0), 0);
        promise20Shut();
        Check.index(x, "20 reader", () -> x.lock(4, 0, 4, 0));
        Check.argument(x, "20 area", () -> x.lock(1, 0, 4, 0));
        Check.argument(x, "20 area", () -> x.lock(0, 0, -1, 0));
        Check.argument(x, "20 mode", () -> x.lock(0, 0, 0, 4));
        Check.argument(x, "20 mode", () -> x.lock(0, 0, 0, -1));
        Check.state(x, "20 OFF", () -> x.lock(1, 0, 0, 0));
    }

    // Locked while SECURED; then ACCESS is told by hand, so that the next one is just OPEN.
    private static void promise20Shut() {
        int[][] places = {{0, 0, 0}, {0, 1, 0}, {0, 2, 1}, {0, 3, 1}, {1, 2, 2}, {3, 0, 3}, {3, 3, 3}};
        for (int mode = 0; mode < 4; mode++) {
            for (int[] p : places) {
                TagRounds x = secured();
                int h = Check.open(x, 2);
                x.lock(0, h, p[2], mode);
                Check.same("20 mode", x.mode(0, p[2]), mode);
                int c = Check.cover(x, h);
                int due = mode == 3 ? MAY_NOT : h;
                Check.same("20 SECURED writes", answered(x, x.write(0, h, p[0], p[1], 1 ^ c)), due);
                Check.same("20 SECURED reads", x.read(0, h, p[0], p[1], 1) == 1 && x.heard(-1) == 2, p[0] != 0 || mode != 3);
                x.nak(0);
                x.store(0, 0, 3, 9);
                h = Check.open(x, 3);
                Check.same("20 OPEN", x.tag(0, 2), 4);
                c = Check.cover(x, h);
                due = mode == 1 || mode == 3 ? MAY_NOT : h;
                Check.same("20 OPEN writes", answered(x, x.write(0, h, p[0], p[1], 1 ^ c)), due);
                Check.same("20 OPEN reads", x.read(0, h, p[0], p[1], 1) == 1 && x.heard(-1) == 2, p[0] != 0 || due == h);
            }
        }
        TagRounds x = secured();
        int h = Check.open(x, 2);
        x.lock(0, h, 1, 3);
        Check.same("20 no word of these", x.read(0, h, 0, 0, 2), 1);
        Check.same("20 no word of these", x.heard(-1), 3);
        Check.same("20 one of these", answered(x, x.read(0, h, 0, 1, 2)), MAY_NOT);
        Check.same("20 no words comes first", answered(x, x.read(0, h, 0, 1, 4)), NO_WORDS);
        Check.same("20 may not comes ahead of COVER", answered(x, x.write(0, h, 0, 2, 4)), MAY_NOT);
    }

    private static int half(TagRounds x, int h, int plain, boolean kill) {
        int c = Check.cover(x, h);
        return x.pass(0, h, plain ^ c, kill);
    }

    private static void promise21() {
        TagRounds x = withPasswords();
        int h = Check.open(x, 2);
        Check.same("21 no COVER", answered(x, x.pass(0, h, 0, false)), NO_COVER);
        Check.same("21 upper", answered(x, half(x, h, 51, false)), h);
        Check.same("21 no COVER then", x.tag(0, 6), -1);
        Check.same("21 lower is next", x.tag(0, 12), 1);
        Check.same("21 without COVER", answered(x, x.pass(0, h, 68, false)), NO_COVER);
        String open = "11000110" + Model.bits(68, 16) + Model.bits(h, 16);
        Check.text("21 sent", Check.sent(x), open + Model.bits(Model.check16(open), 16));
        Check.same("21 still", x.tag(0, 12), 1);
        x.pass(0, h ^ 1, 0, false);
        Check.same("21 the same for another HANDLE", x.tag(0, 12), 1);
        int before = x.count(1);
        Check.same("21 lower", answered(x, half(x, h, 68, false)), h);
        Check.same("21 ticks", x.count(1), before + 7 + 7);
        Check.same("21 SECURED", x.tag(0, 2), 5);
        Check.same("21 upper is next", x.tag(0, 12), 0);
        half(x, h, 17, true);
        String bits = "11000100" + Model.bits(17 ^ new Draws(1).skip(6), 16) + Model.bits(h, 16);
        Check.text("21 sent", Check.sent(x), bits + Model.bits(Model.check16(bits), 16));
        Check.same("21 kill", answered(x, half(x, h, 34, true)), h);
        Check.same("21 KILLED", x.tag(0, 2), 6);
        Check.same("21 KILLED ones do nothing", x.select(0, 0, 0), 0);
        Check.same("21 KILLED ones do nothing", x.query(0, 0, 2, 0, 0), 0);
        x.power(0, false);
        Check.same("21 for good", x.tag(0, 2), 6);
        promise21Wrong();
        promise21Halves();
        Check.index(x, "21 reader", () -> x.pass(4, 0, -1, true));
        Check.argument(x, "21 half", () -> x.pass(1, 0, -1, true));
        Check.argument(x, "21 half", () -> x.pass(1, 0, 65536, false));
        Check.state(x, "21 OFF", () -> x.pass(1, 0, 0, false));
    }

    private static void promise21Wrong() {
        for (int wrong = 1; wrong < 4; wrong++) {
            for (int kill = 0; kill < 2; kill++) {
                TagRounds x = withPasswords();
                int h = Check.open(x, 2);
                int at = kill == 1 ? 0 : 2;
                Check.same("21 the first is answered always", half(x, h, x.word(0, 0, at) ^ (wrong & 1), kill == 1), 1);
                int before = x.count(1);
                Check.same("21 not right", half(x, h, x.word(0, 0, at + 1) ^ (wrong & 2), kill == 1), 0);
                Check.same("21 ticks", x.count(1), before + 7 + 5);
                Check.same("21 WAITS", x.tag(0, 2), 1);
                Check.same("21 no HANDLE", x.tag(0, 5), -1);
                Check.same("21 upper is next", x.tag(0, 12), 0);
            }
        }
        TagRounds zero = secured();
        int h = Check.open(zero, 2);
        half(zero, h, 0, true);
        Check.same("21 both 0", half(zero, h, 0, true), 0);
        Check.same("21 WAITS", zero.tag(0, 2), 1);
        TagRounds later = withPasswords();
        h = Check.open(later, 2);
        half(later, h, 5, true);
        later.store(0, 0, 0, 5);
        Check.same("21 as the words are then", half(later, h, 34, true), 1);
        Check.same("21 KILLED", later.tag(0, 2), 6);
    }

    // What makes the next half the upper one again.
    private static void promise21Halves() {
        for (int i = 0; i < 9; i++) {
            TagRounds x = withPasswords();
            int h = Check.open(x, 2);
            half(x, h, 51, false);
            Check.same("21 lower is next", x.tag(0, 12), 1);
            int due = 0;
            switch (i) {
                case 0: x.select(0, 0, 0); break;
                case 1: x.query(0, 0, 0, 0, 0); break;
                case 2: x.adjust(0, 0, 0); break;
                case 3: x.next(0, 0); break;
                case 4: x.ack(0, h); break;
                case 5: x.nak(0); break;
                case 6: x.read(0, h ^ 1, 3, 0, 1); break;
                case 7: x.lock(0, h, 0, 0); break;
                default: x.renew(0, h ^ 1); due = 1; break;
            }
            Check.same("21 half behind command " + i, x.tag(0, 12), due);
        }
        TagRounds x = withPasswords();
        int h = Check.open(x, 2);
        half(x, h, 51, false);
        half(x, h, 17, true);
        Check.same("21 for the other it is the upper one", x.tag(0, 12), 1);
        Check.same("21 and this the lower", half(x, h, 34, true), 1);
        Check.same("21 KILLED", x.tag(0, 2), 6);
        TagRounds y = withPasswords();
        int k = Check.open(y, 2);
        half(y, k, 51, false);
        y.power(1, true);
        y.nak(1);
        Check.same("21 not HEARD", y.tag(0, 12), 1);
        y.pass(0, k ^ 1, 0, true);
        Check.same("21 the other password, for another HANDLE", y.tag(0, 12), 0);
    }

    private static void promise33() {
        TagRounds x = new TagRounds();
        x.add(0, 4, 0x00010002, 0x00030004);
        for (int i = 1; i < 5; i++) {
            Check.same("33 EPC", x.word(0, 1, 1 + i), i);
        }
        Check.same("33 how many", x.word(0, 1, 1), 8192);
        Check.same("33 maker", x.word(0, 2, 0), 57856);
        int[][] none = {{1, 0, 0}, {-1, 0, 0}, {0, -1, 0}, {0, 4, 0}, {0, 0, 4}, {0, 0, -1}, {0, 1, 6}, {0, 1, -1}, {0, 2, 2}, {0, 3, 4}, {0, 3, Integer.MIN_VALUE}};
        for (int[] n : none) {
            Check.index(x, "33 word", () -> x.word(n[0], n[1], n[2]));
        }
    }

    private static void promise34() {
        TagRounds x = Check.with(1);
        for (int area = 0; area < 4; area++) {
            Check.same("34 mode", x.mode(0, area), 0);
        }
        int h = Check.open(x, 0);
        x.lock(0, h, 2, 1);
        Check.same("34 told", x.mode(0, 2), 1);
        Check.same("34 another", x.mode(0, 1), 0);
        Check.argument(x, "34 area", () -> x.mode(0, 4));
        Check.argument(x, "34 area", () -> x.mode(0, -1));
        Check.index(x, "34 tag", () -> x.mode(1, 4));
    }

    public static void main(String[] args) {
        promise18();
        promise19();
        promise20();
        promise21();
        promise33();
        promise34();
        Check.end("AccessTest");
    }
}
