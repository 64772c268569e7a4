/** Promises 1 to 9: a new object, TAGS, READERS, time, words told by hand. */
public final class AirTest {
    private static void promise1() {
        TagRounds x = new TagRounds();
        Check.same("1 count(0)", x.count(0), 0);
        Check.same("1 count(1)", x.count(1), 0);
        Check.same("1 count(2)", x.count(2), 0);
        Check.same("1 count(3)", x.count(3), 500);
        Check.same("1 count(4)", x.count(4), 1000);
        Check.same("1 count(5)", x.count(5), 0);
        Check.same("1 NONE", TagRounds.NONE, -1);
        Check.same("1 heard", x.heard(-1), 0);
        Check.same("1 sent", x.sent(-1), 0);
        for (int r = 0; r < 4; r++) {
            Check.same("1 ON", x.reader(r, 0), 0);
            Check.same("1 AIM", x.reader(r, 2), 400);
            Check.same("1 PUSH", x.reader(r, 3), 25);
        }
    }

    private static void promise2() {
        TagRounds x = new TagRounds();
        Check.same("2 add", x.add(15, 4, 0x12345678, 0x9abcdef0), 0);
        int[] epc = {8192, 0x1234, 0x5678, 0x9abc, 0xdef0};
        for (int i = 0; i < 5; i++) {
            Check.same("2 word", x.word(0, 1, 1 + i), epc[i]);
        }
        Check.same("2 add", x.add(0, 3, -1, -65536), 1);
        Check.same("2 word", x.word(1, 1, 2), 65535);
        Check.same("2 word", x.word(1, 1, 4), 65535);
        Check.same("2 words", x.tag(1, 9), 3);
        Check.same("2 number", x.word(1, 2, 1), 1);
        Check.same("2 reach", x.tag(0, 0), 15);
        Check.same("2 state", x.tag(0, 2), 0);
        for (int f = 0; f < 5; f++) {
            Check.same("2 flag", x.flag(0, f), 0);
        }
        Check.argument(x, "2 add(16,..)", () -> x.add(16, 1, 0, 0));
        Check.argument(x, "2 add(-1,..)", () -> x.add(-1, 1, 0, 0));
        Check.argument(x, "2 add(0, 0,..)", () -> x.add(0, 0, 0, 0));
        Check.argument(x, "2 add(0, 5,..)", () -> x.add(0, 5, 0, 0));
        for (int i = 2; i < 16; i++) {
            Check.same("2 add", x.add(1, 1, 0, 0), i);
        }
        Check.state(x, "2 a 17th", () -> x.add(1, 1, 0, 0));
        Check.argument(x, "2 a 17th that is none", () -> x.add(1, 5, 0, 0));
        Check.same("2 count", x.count(0), 16);
        TagRounds lit = new TagRounds();
        lit.power(2, true);
        lit.add(4, 1, 0, 0);
        Check.same("2 POWER at once", lit.tag(0, 1), 1);
    }

    private static void promise3() {
        TagRounds x = Check.with(2);
        x.query(0, 0, 2, 0, 0);
        Check.same("3 replies", x.tag(1, 2), 2);
        Check.same("3 move", x.move(1, 2), 1);
        Check.same("3 state", x.tag(1, 2), 0);
        Check.same("3 session", x.tag(1, 7), -1);
        Check.same("3 reach", x.tag(1, 0), 2);
        Check.same("3 power", x.tag(1, 1), 0);
        Check.same("3 other", x.tag(0, 2), 2);
        Check.same("3 back", x.move(1, 15), 2);
        Check.same("3 power", x.tag(1, 1), 1);
        Check.argument(x, "3 move(0, 16)", () -> x.move(0, 16));
        Check.argument(x, "3 move(0, -1)", () -> x.move(0, -1));
        Check.index(x, "3 move(2, 0)", () -> x.move(2, 0));
        Check.index(x, "3 move(-1, 16)", () -> x.move(-1, 16));
        x.power(1, true);
        x.query(0, 0, 0, 0, 0);
        x.move(1, 2);
        Check.same("3 with POWER all the while it goes on", x.tag(1, 2), 2);
    }

    private static void promise4() {
        TagRounds x = Check.with(1);
        Check.same("4 again", x.power(0, true), false);
        Check.same("4 off", x.power(0, false), true);
        Check.same("4 off again", x.power(0, false), false);
        Check.same("4 on", x.power(0, true), true);
        Check.index(x, "4 power(4)", () -> x.power(4, true));
        Check.index(x, "4 power(-1)", () -> x.power(-1, false));
        int handle = Check.open(x, 2);
        Check.cover(x, handle);
        Check.same("4 handle", x.tag(0, 5), handle);
        x.power(1, true);
        x.move(0, 3);
        x.power(0, false);
        Check.same("4 the other gives POWER", x.tag(0, 5), handle);
        x.power(1, false);
        Check.same("4 READY", x.tag(0, 2), 0);
        Check.same("4 no handle", x.tag(0, 5), -1);
        Check.same("4 no cover", x.tag(0, 6), -1);
    }

    private static void promise5() {
        TagRounds x = new TagRounds();
        Check.same("5 FRAME", x.time(0, 999), 0);
        Check.same("5 FRAME", x.time(0, 0), 999);
        Check.same("5 HOLD", x.time(1, 1), 500);
        Check.same("5 HOLD", x.time(1, 9999), 1);
        Check.same("5 KEEP", x.time(2, 1), 1000);
        Check.same("5 KEEP", x.time(2, 9999), 1);
        Check.same("5 HOLD", x.count(3), 9999);
        Check.same("5 KEEP", x.count(4), 9999);
        Check.element(x, "5 time(3, 1)", () -> x.time(3, 1));
        Check.element(x, "5 time(-1, 5000000)", () -> x.time(-1, 5000000));
        int[][] none = {{0, -1}, {0, 1000}, {1, 0}, {1, 10000}, {2, 0}, {2, 10000}};
        for (int[] n : none) {
            Check.argument(x, "5 time(" + n[0] + ", " + n[1] + ")", () -> x.time(n[0], n[1]));
        }
        promise5Fading();
    }

    private static void promise5Fading() {
        TagRounds x = Check.with(1);
        x.select(0, 1, 5);
        x.select(0, 2, 5);
        x.power(0, false);
        x.rest(300);
        Check.same("5 B still", x.flag(0, 1), 1);
        x.time(1, 200);
        Check.same("5 gone by the shorter HOLD", x.flag(0, 1), 0);
        x.time(1, 9999);
        Check.same("5 stays gone", x.flag(0, 1), 0);
        Check.same("5 B of 2 still", x.flag(0, 2), 1);
        x.time(2, 300);
        Check.same("5 gone by the shorter KEEP", x.flag(0, 2), 0);
        x.time(2, 9999);
        Check.same("5 stays gone", x.flag(0, 2), 0);
        TagRounds y = Check.with(1);
        y.select(0, 1, 5);
        y.rest(400);
        y.time(1, 9999);
        y.rest(9000);
        Check.same("5 the longer HOLD", y.flag(0, 1), 1);
        Check.same("5 the longer HOLD", y.fades(0, 1), 9999 - 9405);
    }

    private static void promise6() {
        TagRounds x = Check.with(0);
        x.time(0, 10);
        x.slice(0, 8, 5);
        int[] busy = {0, 0, 0, 0, 0, 0, 0, 0, 1, 1, 0, 0};
        for (int i = 0; i < busy.length; i++) {
            Check.same("6 BUSY at " + i, x.reader(0, 1), busy[i]);
            x.rest(1);
        }
        x.slice(0, 0, 0);
        Check.same("6 LONG 0", x.reader(0, 1), 0);
        x.slice(0, 2, 1);
        Check.same("6 BUSY at 12", x.reader(0, 1), 1);
        x.power(0, false);
        Check.same("6 OFF", x.reader(0, 1), 0);
        x.power(0, true);
        x.time(0, 0);
        Check.same("6 FRAME 0", x.reader(0, 1), 0);
        x.slice(3, 999, 999);
        Check.index(x, "6 slice(4)", () -> x.slice(4, -1, 0));
        Check.index(x, "6 slice(-1)", () -> x.slice(-1, 0, 0));
        Check.argument(x, "6 slice from", () -> x.slice(0, 1000, 0));
        Check.argument(x, "6 slice from", () -> x.slice(0, -1, 0));
        Check.argument(x, "6 slice ticks", () -> x.slice(0, 0, 1000));
        Check.argument(x, "6 slice ticks", () -> x.slice(0, 0, -1));
    }

    private static void promise7() {
        TagRounds x = new TagRounds();
        Check.same("7 rest", x.rest(1), 1);
        Check.same("7 rest", x.rest(9999), 10000);
        Check.argument(x, "7 rest(0)", () -> x.rest(0));
        Check.argument(x, "7 rest(10000)", () -> x.rest(10000));
        Check.argument(x, "7 rest(-1)", () -> x.rest(-1));
        for (int i = 0; i < 8; i++) {
            x.rest(9999);
        }
        Check.same("7 near the end", x.rest(9998), 99990);
        Check.same("7 the end", x.rest(10), 99999);
        Check.same("7 it stops there", x.rest(9999), 99999);
        x.power(0, true);
        Check.state(x, "7 no command then", () -> x.nak(0));
    }

    private static void promise8() {
        TagRounds x = Check.with(2);
        Check.same("8 seed", x.seed(0, -5), 1);
        Check.same("8 seed", x.seed(1, 0), 2);
        Check.same("8 seed", x.seed(0, Integer.MIN_VALUE), -5);
        Check.same("8 seed", x.seed(0, 77), Integer.MIN_VALUE);
        x.move(1, 0);
        x.query(0, 0, 0, 0, 0);
        Check.same("8 NUMBER", x.tag(0, 4), new Draws(77).skip(2));
        Check.index(x, "8 seed(2)", () -> x.seed(2, 0));
        Check.index(x, "8 seed(-1)", () -> x.seed(-1, 0));
    }

    private static void promise9() {
        TagRounds x = Check.with(1);
        Check.same("9 store", x.store(0, 0, 3, 65535), 0);
        Check.same("9 store", x.store(0, 0, 3, 0), 65535);
        Check.same("9 store", x.store(0, 3, 0, 9), 0);
        Check.same("9 word", x.word(0, 3, 0), 9);
        int sum = x.word(0, 1, 0);
        Check.same("9 store", x.store(0, 1, 2, 0x4321), 0x1234);
        Check.same("9 SUM", x.word(0, 1, 0), Model.check16(Model.bits(2048, 16) + Model.bits(0x4321, 16)));
        x.store(0, 1, 2, 0x1234);
        Check.same("9 SUM", x.word(0, 1, 0), sum);
        int[][] none = {{1, 0, 0}, {-1, 0, 0}, {0, 4, 0}, {0, -1, 0}, {0, 0, 4}, {0, 0, -1}, {0, 1, 0}, {0, 1, 1}, {0, 1, 3}, {0, 2, 0}, {0, 2, 1}, {0, 2, 2}, {0, 3, 4}};
        for (int[] n : none) {
            Check.index(x, "9 store(" + n[0] + ", " + n[1] + ", " + n[2] + ")", () -> x.store(n[0], n[1], n[2], 65536));
        }
        Check.argument(x, "9 store 65536", () -> x.store(0, 1, 2, 65536));
        Check.argument(x, "9 store -1", () -> x.store(0, 0, 0, -1));
    }

    public static void main(String[] args) {
        promise1();
        promise2();
        promise3();
        promise4();
        promise5();
        promise6();
        promise7();
        promise8();
        promise9();
        Check.end("AirTest");
    }
}
