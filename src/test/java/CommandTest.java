/** Promises 10 to 17, 22 and 25: MASK, SELECT, QUERY, ADJUST, NEXT, ACK, NAK, RENEW, what was HEARD and SENT. */
public final class CommandTest {
    private static void promise10() {
        TagRounds x = new TagRounds();
        x.add(1, 1, 0x12340000, 0);
        x.add(1, 2, 0x1234abcd, 0);
        Check.same("10 at first all match", x.count(10), 3);
        x.mask(1, 32, 16, 0x1234);
        Check.same("10 both", x.count(10), 3);
        x.mask(1, 32, 20, 0x1234a);
        Check.same("10 one", x.count(10), 2);
        Check.same("10 one", x.tag(0, 10), 0);
        Check.same("10 one", x.tag(1, 10), 1);
        x.mask(1, 32, 16, 0xffff1234);
        Check.same("10 just the lowest", x.count(10), 3);
        x.mask(1, 33, 15, 0x1234);
        Check.same("10 a bit behind", x.count(10), 3);
        x.mask(1, 47, 2, 1);
        Check.same("10 over words", x.tag(1, 10), 1);
        Check.same("10 beyond the bank", x.tag(0, 10), 0);
        x.mask(2, 0, 31, 57856 << 15);
        Check.same("10 bank 2", x.count(10), 3);
        x.mask(2, 31, 1, 1);
        Check.same("10 bank 2", x.tag(1, 10), 1);
        x.mask(3, 63, 1, 0);
        Check.same("10 bank 3", x.count(10), 3);
        x.mask(3, 64, 1, 0);
        Check.same("10 behind bank 3", x.count(10), 0);
        x.mask(3, 255, 0, 1);
        Check.same("10 LONG 0", x.count(10), 3);
        int[][] none = {{0, 0, 0}, {4, 0, 0}, {-1, 0, 0}, {1, -1, 0}, {1, 256, 0}, {1, 0, -1}, {1, 0, 32}};
        for (int[] n : none) {
            Check.argument(x, "10 mask(" + n[0] + ", " + n[1] + ", " + n[2] + ")", () -> x.mask(n[0], n[1], n[2], 0));
        }
        x.power(0, true);
        x.mask(1, 0, 0, 0);
        x.select(0, 0, 0);
        x.mask(1, 32, 16, 0x1234);
        Check.same("10 the mask stands", x.count(10), 3);
    }

    // Of TAG 0 (matches) and TAG 1 (does not) what FLAG f is behind an ACTION, from 0 and from 1.
    private static void acted(int f, int action, int[] due) {
        for (int was = 0; was < 2; was++) {
            TagRounds x = Check.with(2);
            x.mask(1, 0, 0, 0);
            x.select(0, f, was == (f == 4 ? 1 : 0) ? 0 : 4);
            Check.same("11 first", x.flag(0, f) + x.flag(1, f), 2 * was);
            x.mask(1, 32, 16, 0x1234);
            Check.same("11 select", x.select(0, f, action), 1);
            Check.same("11 matching, flag " + f + ", action " + action + " from " + was, x.flag(0, f), due[0] == 2 ? was : due[0] == 3 ? 1 - was : due[0]);
            Check.same("11 other, flag " + f + ", action " + action + " from " + was, x.flag(1, f), due[1] == 2 ? was : due[1] == 3 ? 1 - was : due[1]);
        }
    }

    private static void promise11() {
        int[][] table = {{0, 1}, {0, 2}, {2, 1}, {3, 2}, {1, 0}, {1, 2}, {2, 0}, {2, 3}};
        for (int action = 0; action < 8; action++) {
            int[] t = table[action];
            for (int f = 0; f < 4; f++) {
                acted(f, action, t);
            }
            acted(4, action, new int[] {t[0] < 2 ? 1 - t[0] : t[0], t[1] < 2 ? 1 - t[1] : t[1]});
        }
        TagRounds x = Check.with(3);
        int handle = x.query(0, 0, 2, 0, 0);
        Check.same("11 replied", handle, 2);
        Check.same("11 select", x.select(0, 0, 1), 3);
        Check.same("11 READY", x.tag(0, 2) + x.tag(1, 2) + x.tag(2, 2), 0);
        TagRounds opened = Check.with(1);
        Check.cover(opened, Check.open(opened, 0));
        opened.select(0, 0, 1);
        Check.same("11 no HANDLE", opened.tag(0, 5), -1);
        Check.same("11 no COVER", opened.tag(0, 6), -1);
        Check.same("11 ticks", x.count(1), 11);
        x.move(2, 2);
        Check.same("11 who hears", x.select(0, 3, 0), 2);
        Check.same("11 nobody", x.select(0, 3, 0), 2);
        Check.index(x, "11 reader", () -> x.select(4, 5, 0));
        Check.argument(x, "11 flag", () -> x.select(0, 5, 0));
        Check.argument(x, "11 flag", () -> x.select(1, -1, 0));
        Check.argument(x, "11 action", () -> x.select(1, 0, 8));
        Check.argument(x, "11 action", () -> x.select(0, 0, -1));
        Check.state(x, "11 OFF", () -> x.select(1, 0, 0));
        x.mask(3, 9, 5, 0b10110);
        x.select(0, 4, 6);
        String bits = "1010" + "100" + "110" + "11" + "00001001" + "00000101" + "10110";
        Check.text("11 sent", Check.sent(x), bits + Model.bits(Model.check16(bits), 16));
        Check.same("11 HEARD stays", x.heard(-1), 0);
        TagRounds y = Check.with(1);
        y.query(0, 0, 0, 0, 0);
        y.select(0, 0, 0);
        Check.same("11 HEARD stays", y.heard(-1), 1);
    }

    private static void promise12() {
        TagRounds x = Check.with(2);
        Draws d0 = new Draws(1);
        Draws d1 = new Draws(2);
        Check.same("12 clash", x.query(0, 0, 0, 0, 0), 2);
        d0.next();
        d1.next();
        Check.same("12 NUMBER", x.tag(0, 4), d0.next());
        Check.same("12 NUMBER", x.tag(1, 4), d1.next());
        Check.same("12 ticks of a clash", x.count(1), 6);
        x.select(0, 4, 4);
        x.mask(1, 32, 16, 0x1235);
        x.select(0, 4, 0);
        Check.same("12 PICKED", x.flag(1, 4), 1);
        Check.same("12 one PICKED", x.query(0, 2, 1, 0, 0), 1);
        Check.same("12 it is", x.tag(1, 2), 2);
        Check.same("12 the other is READY", x.tag(0, 2), 0);
        Check.same("12 one not PICKED", x.query(0, 1, 1, 0, 0), 1);
        Check.same("12 it is", x.tag(0, 2), 2);
        Check.same("12 none is B", x.query(0, 0, 1, 1, 0), 0);
        int before = x.count(1);
        Check.same("12 q 15", x.query(0, 0, 3, 0, 15), 0);
        Check.same("12 ticks of no answer", x.count(1), before + 5);
        Check.same("12 WAITS", x.tag(0, 2), 1);
        Check.same("12 Q", x.tag(0, 8), 15);
        Check.same("12 SESSION", x.tag(0, 7), 3);
        promise12Flips();
        int[][] none = {{-1, 0, 0, 0}, {3, 0, 0, 0}, {0, -1, 0, 0}, {0, 4, 0, 0}, {0, 0, -1, 0}, {0, 0, 2, 0}, {0, 0, 0, -1}, {0, 0, 0, 16}};
        for (int[] n : none) {
            Check.argument(x, "12 query", () -> x.query(0, n[0], n[1], n[2], n[3]));
            Check.argument(x, "12 query, OFF", () -> x.query(1, n[0], n[1], n[2], n[3]));
            Check.index(x, "12 query, no reader", () -> x.query(4, n[0], n[1], n[2], n[3]));
        }
        Check.state(x, "12 OFF", () -> x.query(3, 0, 0, 0, 0));
        x.query(0, 2, 1, 1, 11);
        String bits = "1000" + "10" + "01" + "1" + "1011";
        Check.text("12 sent", Check.sent(x), bits + Model.bits(Model.check(bits, 5, 9, 9), 5));
    }

    private static void promise12Flips() {
        TagRounds x = Check.with(1);
        x.query(0, 0, 2, 0, 0);
        x.ack(0, x.heard(0));
        Check.same("12 KNOWN", x.tag(0, 2), 3);
        Check.same("12 of another SESSION: no flip", x.query(0, 0, 3, 0, 0), 1);
        Check.same("12 flag 2", x.flag(0, 2), 0);
        x.ack(0, x.heard(0));
        Check.same("12 flips to B first", x.query(0, 0, 3, 0, 0), 0);
        Check.same("12 flag 3", x.flag(0, 3), 1);
        Check.same("12 READY", x.tag(0, 2), 0);
        Check.same("12 B now", x.query(0, 0, 3, 1, 0), 1);
        int handle = Check.open(x, 2);
        Check.same("12 a handle", x.tag(0, 5), handle);
        Check.same("12 flips, and goes on as B", x.query(0, 0, 2, 1, 0), 1);
        Check.same("12 replies", x.tag(0, 2), 2);
    }

    private static void promise13() {
        TagRounds x = Check.with(2);
        x.query(0, 0, 1, 0, 0);
        int before = x.count(1);
        Check.same("13 one in slot 0", x.adjust(0, 1, 1), 1);
        Check.same("13 ticks", x.count(1), before + 2 + 3);
        Check.same("13 Q", x.tag(0, 8), 1);
        Check.text("13 sent", Check.sent(x), "1001" + "01" + "110");
        x.adjust(0, 1, -1);
        Check.text("13 sent", Check.sent(x), "1001" + "01" + "011");
        Check.same("13 Q", x.tag(1, 8), 0);
        Check.same("13 Q not below 0", x.adjust(0, 1, -1), 2);
        Check.same("13 Q", x.tag(1, 8), 0);
        Check.same("13 another session", x.adjust(0, 2, 0), 0);
        Check.text("13 sent", Check.sent(x), "1001" + "10" + "000");
        Check.same("13 unchanged", x.tag(0, 2), 2);
        x.query(0, 0, 1, 0, 15);
        x.adjust(0, 1, 1);
        Check.same("13 Q not above 15", x.tag(0, 8), 15);
        TagRounds y = Check.with(1);
        Check.open(y, 3);
        Check.same("13 flips", y.adjust(0, 3, 0), 0);
        Check.same("13 B", y.flag(0, 3), 1);
        Check.same("13 READY", y.tag(0, 2), 0);
        Check.same("13 no HANDLE", y.tag(0, 5), -1);
        Check.same("13 READY ones do nothing", y.adjust(0, 3, 0), 0);
        Check.argument(x, "13 session", () -> x.adjust(0, 4, 0));
        Check.argument(x, "13 session", () -> x.adjust(0, -1, 0));
        Check.argument(x, "13 up", () -> x.adjust(0, 0, 2));
        Check.argument(x, "13 up", () -> x.adjust(1, 0, -2));
        Check.index(x, "13 reader", () -> x.adjust(-1, 0, 2));
        Check.state(x, "13 OFF", () -> x.adjust(1, 0, 0));
    }

    private static void promise14() {
        TagRounds x = Check.with(1);
        x.query(0, 0, 0, 0, 2);
        int slot = x.tag(0, 3);
        Check.same("14 SLOT", slot, new Draws(1).next() % 4);
        for (int i = slot - 1; i > 0; i--) {
            Check.same("14 not yet", x.next(0, 0), 0);
            Check.same("14 SLOT", x.tag(0, 3), i);
        }
        int before = x.count(1);
        Check.same("14 another session", x.next(0, 1), 0);
        Check.same("14 ticks", x.count(1), before + 2);
        Check.same("14 now", x.next(0, 0), 1);
        Check.same("14 ticks", x.count(1), before + 2 + 4);
        Check.same("14 NUMBER", x.heard(0), x.tag(0, 4));
        Check.same("14 behind 0", x.next(0, 0), 0);
        Check.same("14 SLOT", x.tag(0, 3), 32767);
        Check.same("14 WAITS", x.tag(0, 2), 1);
        Check.text("14 sent", Check.sent(x), "0000");
        x.next(0, 3);
        Check.text("14 sent", Check.sent(x), "0011");
        x.query(0, 0, 0, 0, 0);
        x.ack(0, x.heard(0));
        x.next(0, 0);
        Check.same("14 flips", x.flag(0, 0), 1);
        Check.same("14 READY", x.tag(0, 2), 0);
        Check.argument(x, "14 session", () -> x.next(0, 4));
        Check.argument(x, "14 session", () -> x.next(1, -1));
        Check.index(x, "14 reader", () -> x.next(4, 4));
        Check.state(x, "14 OFF", () -> x.next(2, 0));
    }

    private static void promise15() {
        TagRounds x = Check.with(2);
        x.store(1, 1, 2, 0xabcd);
        x.query(0, 0, 0, 0, 0);
        int number = x.tag(1, 4);
        int before = x.count(1);
        Check.same("15 ack", x.ack(0, number), 1);
        Check.same("15 ticks", x.count(1), before + 2 + 2 + 3);
        Check.same("15 words", x.heard(-1), 3);
        Check.same("15 how many", x.heard(0), 2048);
        Check.same("15 EPC", x.heard(1), 0xabcd);
        Check.same("15 SUM", x.heard(2), x.word(1, 1, 0));
        Check.same("15 KNOWN", x.tag(1, 2), 3);
        Check.same("15 NUMBER stays", x.tag(1, 4), number);
        Check.same("15 the other WAITS", x.tag(0, 2), 1);
        Check.same("15 its SLOT", x.tag(0, 3), 0);
        Check.same("15 again", x.ack(0, number), 1);
        Check.same("15 not its number", x.ack(0, number + 65536), 0);
        Check.same("15 it WAITS", x.tag(1, 2), 1);
        Check.same("15 nobody", x.ack(0, -1), 0);
        Check.text("15 sent", Check.sent(x), "01" + "1111111111111111");
        TagRounds y = Check.with(1);
        int handle = Check.open(y, 0);
        Check.same("15 by HANDLE", y.ack(0, handle), 1);
        Check.same("15 stays so", y.tag(0, 2), 5);
        Check.same("15 another one", y.ack(0, handle ^ 1), 0);
        Check.same("15 WAITS", y.tag(0, 2), 1);
        Check.same("15 no HANDLE", y.tag(0, 5), -1);
        Check.index(x, "15 reader", () -> x.ack(4, 0));
        Check.state(x, "15 OFF", () -> x.ack(1, 0));
    }

    private static void promise16() {
        for (int known = 0; known < 2; known++) {
            TagRounds x = Check.with(1);
            x.query(0, 0, 0, 0, 0);
            if (known == 1) {
                x.ack(0, x.heard(0));
            }
            int before = x.count(1);
            int words = x.heard(-1);
            Check.same("16 nak", x.nak(0), 0);
            Check.same("16 WAITS", x.tag(0, 2), 1);
            Check.same("16 ticks", x.count(1), before + 1);
            Check.same("16 HEARD stays", x.heard(-1), words);
            Check.text("16 sent", Check.sent(x), "11000000");
        }
        TagRounds x = Check.with(1);
        x.nak(0);
        Check.same("16 READY stays", x.tag(0, 2), 0);
        int handle = Check.open(x, 0);
        Check.cover(x, handle);
        x.nak(0);
        Check.same("16 WAITS", x.tag(0, 2), 1);
        Check.same("16 no HANDLE", x.tag(0, 5), -1);
        Check.same("16 no COVER", x.tag(0, 6), -1);
        Check.index(x, "16 reader", () -> x.nak(-1));
        Check.state(x, "16 OFF", () -> x.nak(1));
    }

    private static void promise17() {
        TagRounds x = Check.with(1);
        x.query(0, 0, 0, 0, 0);
        int number = x.heard(0);
        Check.same("17 just one that is KNOWN", x.renew(0, number), 0);
        Check.same("17 WAITS", x.tag(0, 2), 1);
        x.query(0, 0, 0, 0, 0);
        x.ack(0, x.tag(0, 4));
        int before = x.count(1);
        Check.same("17 renew", x.renew(0, x.tag(0, 4)), 1);
        Check.same("17 ticks", x.count(1), before + 4 + 3);
        Draws d = new Draws(1);
        Check.same("17 HANDLE", x.heard(0), d.skip(5));
        Check.same("17 HANDLE", x.tag(0, 5), x.heard(0));
        Check.same("17 SECURED", x.tag(0, 2), 5);
        Check.same("17 no NUMBER", x.tag(0, 4), -1);
        Check.same("17 COVER", x.renew(0, x.tag(0, 5)), 1);
        Check.same("17 COVER", x.heard(0), d.next());
        Check.same("17 COVER", x.tag(0, 6), x.heard(0));
        Check.same("17 another HANDLE", x.renew(0, x.tag(0, 5) ^ 1), 0);
        Check.same("17 stays", x.tag(0, 2), 5);
        String bits = "11000001" + Model.bits(x.tag(0, 5) ^ 1, 16);
        Check.text("17 sent", Check.sent(x), bits + Model.bits(Model.check16(bits), 16));
        for (int word = 2; word < 4; word++) {
            TagRounds y = Check.with(1);
            y.store(0, 0, word, 1);
            Check.open(y, 0);
            Check.same("17 OPEN", y.tag(0, 2), 4);
        }
        TagRounds z = Check.with(1);
        z.query(0, 0, 0, 0, 0);
        z.ack(0, z.heard(0));
        Check.same("17 KNOWN, another number", z.renew(0, z.tag(0, 4) ^ 1), 0);
        Check.same("17 WAITS", z.tag(0, 2), 1);
        Check.index(x, "17 reader", () -> x.renew(4, 0));
        Check.state(x, "17 OFF", () -> x.renew(1, 0));
    }

    private static void promise22() {
        TagRounds x = Check.with(2);
        Check.same("22 ahead of any", x.heard(-1), 0);
        Check.same("22 none", x.heard(0), -1);
        x.move(1, 0);
        x.query(0, 0, 0, 0, 0);
        Check.same("22 one", x.heard(-1), 1);
        Check.same("22 behind it", x.heard(1), -1);
        Check.same("22 no such", x.heard(-2), -1);
        Check.same("22 no such", x.heard(Integer.MAX_VALUE), -1);
        Check.same("22 no such", x.heard(Integer.MIN_VALUE), -1);
        x.move(1, 1);
        x.query(0, 0, 0, 0, 0);
        Check.same("22 several", x.heard(-1), 0);
        Check.same("22 several", x.heard(0), -1);
        x.ack(0, x.tag(0, 4));
        Check.same("22 one", x.heard(-1), 3);
        x.next(0, 2);
        Check.same("22 nobody", x.heard(-1), 0);
    }

    private static void promise25() {
        TagRounds x = Check.with(1);
        Check.same("25 ahead of any", x.sent(-1), 0);
        Check.same("25 none", x.sent(0), -1);
        x.mask(1, 0, 31, 0x7fffffff);
        x.select(0, 0, 0);
        Check.same("25 the longest", x.sent(-1), 75);
        Check.same("25 bit", x.sent(74) >= 0 ? 1 : 0, 1);
        Check.same("25 behind", x.sent(75), -1);
        Check.same("25 no such", x.sent(-2), -1);
        Check.same("25 no such", x.sent(Integer.MAX_VALUE), -1);
        x.power(1, true);
        x.next(1, 2);
        Check.text("25 of any READER", Check.sent(x), "0010");
        Check.state(x, "25 refused", () -> x.nak(2));
        Check.text("25 not that", Check.sent(x), "0010");
        x.read(0, -1, 3, 257, 4);
        String bits = "11000010" + "11" + "00000001" + "00000100" + "1111111111111111";
        Check.text("25 the lowest bits", Check.sent(x), bits + Model.bits(Model.check16(bits), 16));
    }

    public static void main(String[] args) {
        promise10();
        promise11();
        promise12();
        promise13();
        promise14();
        promise15();
        promise16();
        promise17();
        promise22();
        promise25();
        Check.end("CommandTest");
    }
}
