/** Promises 30 to 32 and 35 to 38: what is told of TAGS, FLAGS that fade, the log, RATE, counts. */
public final class AskTest {
    private static void promise30() {
        TagRounds x = new TagRounds();
        x.rest(5);
        x.add(2, 3, 0, 0);
        x.rest(7);
        Check.same("30 REACH", x.tag(0, 0), 2);
        Check.same("30 POWER", x.tag(0, 1), 0);
        Check.same("30 no POWER for", x.tag(0, 14), 7);
        for (int what = 3; what <= 8; what++) {
            Check.same("30 none of " + what, x.tag(0, what), -1);
        }
        Check.same("30 words", x.tag(0, 9), 3);
        Check.same("30 no READER", x.tag(0, 13), -1);
        x.power(1, true);
        Check.same("30 POWER", x.tag(0, 1), 1);
        Check.same("30 with POWER", x.tag(0, 14), -1);
        Check.same("30 READER", x.tag(0, 13), 1);
        x.query(1, 0, 3, 0, 4);
        Check.same("30 WAITS", x.tag(0, 2), 1);
        Check.same("30 SLOT", x.tag(0, 3), new Draws(1).next() % 16);
        Check.same("30 NUMBER", x.tag(0, 4), -1);
        Check.same("30 SESSION", x.tag(0, 7), 3);
        Check.same("30 Q", x.tag(0, 8), 4);
        x.query(1, 0, 2, 0, 0);
        Check.same("30 REPLIES", x.tag(0, 2), 2);
        Check.same("30 SLOT", x.tag(0, 3), 0);
        Check.same("30 NUMBER", x.tag(0, 4), x.heard(0));
        x.ack(1, x.heard(0));
        Check.same("30 KNOWN has no SLOT", x.tag(0, 3), -1);
        Check.same("30 but a NUMBER", x.tag(0, 4) >= 0, true);
        x.renew(1, x.tag(0, 4));
        Check.same("30 HANDLE", x.tag(0, 5), x.heard(0));
        Check.same("30 SESSION", x.tag(0, 7), 2);
        x.power(1, false);
        x.rest(3);
        Check.same("30 without POWER", x.tag(0, 2), 0);
        Check.same("30 no POWER for", x.tag(0, 14), 3);
        Check.same("30 half", x.tag(0, 12), 0);
        Check.same("30 MATCHES", x.tag(0, 10), 1);
        Check.same("30 READ", x.tag(0, 11), 0);
        x.time(0, 10);
        x.move(0, 7);
        x.power(0, true);
        x.power(1, true);
        x.power(2, true);
        Check.same("30 of several the least", x.tag(0, 13), 0);
        x.slice(1, 0, 3);
        Check.same("30 the most CHANCES", x.tag(0, 13), 1);
        x.slice(2, 2, 5);
        Check.same("30 the most CHANCES", x.tag(0, 13), 2);
        x.slice(1, 0, 10);
        x.slice(2, 0, 10);
        Check.same("30 without a CHANCE", x.tag(0, 13), -1);
        Check.index(x, "30 tag", () -> x.tag(1, 15));
        Check.index(x, "30 tag", () -> x.tag(-1, 0));
        Check.element(x, "30 what", () -> x.tag(0, 15));
        Check.element(x, "30 what", () -> x.tag(0, -1));
    }

    private static TagRounds allSet() {
        TagRounds x = Check.with(1);
        for (int f = 0; f < 5; f++) {
            x.select(0, f, f == 4 ? 0 : 5);
        }
        return x;
    }

    private static void promise31() {
        TagRounds x = allSet();
        for (int f = 0; f < 5; f++) {
            Check.same("31 flag", x.flag(0, f), 1);
        }
        // NOW is 25; FLAG 1 was told at 5
        x.rest(479);
        Check.same("31 HOLD not gone", x.flag(0, 1), 1);
        x.rest(1);
        Check.same("31 HOLD gone, with POWER", x.flag(0, 1), 0);
        x.rest(9999);
        Check.same("31 with POWER", x.flag(0, 0) + x.flag(0, 2) + x.flag(0, 3) + x.flag(0, 4), 4);
        x.power(0, false);
        Check.same("31 0 goes with the POWER", x.flag(0, 0), 0);
        x.rest(999);
        Check.same("31 KEEP not gone", x.flag(0, 2) + x.flag(0, 3) + x.flag(0, 4), 3);
        x.power(0, true);
        x.rest(1);
        x.power(0, false);
        x.rest(999);
        Check.same("31 KEEP anew", x.flag(0, 2) + x.flag(0, 3) + x.flag(0, 4), 3);
        x.rest(1);
        Check.same("31 KEEP gone", x.flag(0, 2) + x.flag(0, 3) + x.flag(0, 4), 0);
        x.power(0, true);
        Check.same("31 gone for good", x.flag(0, 2), 0);
        TagRounds y = allSet();
        y.power(0, false);
        Check.same("31 1 without POWER", y.flag(0, 1), 1);
        y.power(0, true);
        Check.same("31 0 not back", y.flag(0, 0), 0);
        y.rest(400);
        y.select(0, 1, 5);
        y.rest(400);
        Check.same("31 told B again", y.flag(0, 1), 1);
        y.rest(95);
        Check.same("31 and gone", y.flag(0, 1), 0);
        TagRounds z = allSet();
        z.time(1, 22);
        z.nak(0);
        Check.same("31 not yet", z.flag(0, 1), 1);
        z.nak(0);
        Check.same("31 gone by a command's ticks", z.flag(0, 1), 0);
        Check.index(x, "31 tag", () -> x.flag(1, 5));
        Check.argument(x, "31 flag", () -> x.flag(0, 5));
        Check.argument(x, "31 flag", () -> x.flag(0, -1));
    }

    private static void promise32() {
        TagRounds x = Check.with(1);
        for (int f = 0; f < 5; f++) {
            Check.same("32 is 0", x.fades(0, f), -1);
        }
        TagRounds y = allSet();
        Check.same("32 stays", y.fades(0, 0), -1);
        Check.same("32 HOLD", y.fades(0, 1), 480);
        Check.same("32 stays", y.fades(0, 2), -1);
        Check.same("32 stays", y.fades(0, 4), -1);
        y.power(0, false);
        y.rest(10);
        Check.same("32 is 0", y.fades(0, 0), -1);
        Check.same("32 HOLD", y.fades(0, 1), 470);
        for (int f = 2; f < 5; f++) {
            Check.same("32 KEEP", y.fades(0, f), 990);
        }
        y.time(1, 31);
        y.time(2, 11);
        Check.same("32 HOLD told", y.fades(0, 1), 1);
        Check.same("32 KEEP told", y.fades(0, 3), 1);
        y.rest(1);
        Check.same("32 gone", y.fades(0, 1), -1);
        Check.same("32 gone", y.fades(0, 3), -1);
        Check.index(y, "32 tag", () -> y.fades(-1, 5));
        Check.argument(y, "32 flag", () -> y.fades(0, 5));
        Check.argument(y, "32 flag", () -> y.fades(0, -1));
    }

    private static void promise35() {
        TagRounds x = Check.with(1);
        x.power(2, true);
        x.move(0, 5);
        x.steer(0, 0, 0);
        x.steer(2, 0, 0);
        Check.same("35 none", x.log(0, 0), -1);
        int ahead = 0;
        for (int i = 0; i < 45; i++) {
            ahead = x.count(1) + 7;
            Check.same("35 round", x.round(i % 2 * 2, 0, 3, i % 2, 1), 1);
        }
        Check.same("35 READER", x.log(0, 0), 0);
        Check.same("35 READER", x.log(1, 0), 2);
        Check.same("35 TAG", x.log(0, 1), 0);
        Check.same("35 SESSION", x.log(0, 2), 3);
        Check.same("35 NOW", x.log(0, 3), ahead);
        for (int k = 0; k < 40; k++) {
            Check.same("35 NOW of " + k, x.log(k, 3), ahead - k * 16);
        }
        Check.same("35 just 40", x.log(40, 3), -1);
        Check.same("35 no such", x.log(-1, 3), -1);
        Check.same("35 no such", x.log(Integer.MAX_VALUE, 0), -1);
        Check.same("35 READ", x.tag(0, 11), 45);
        Check.element(x, "35 what", () -> x.log(0, 4));
        Check.element(x, "35 what", () -> x.log(-1, -1));
    }

    private static void promise36() {
        TagRounds x = Check.with(3);
        x.mask(1, 32, 16, 0x1235);
        x.select(0, 2, 5);
        Check.same("36 B", x.left(2, 1), 2);
        Check.same("36 A", x.left(2, 0), 5);
        x.select(0, 4, 0);
        Check.same("36 PICKED", x.left(4, 1), 2);
        x.move(0, 2);
        Check.same("36 with POWER", x.left(2, 0), 4);
        x.move(1, 0);
        Check.same("36 with POWER", x.left(2, 1), 0);
        Check.argument(x, "36 flag", () -> x.left(5, 0));
        Check.argument(x, "36 flag", () -> x.left(-1, 0));
        Check.argument(x, "36 value", () -> x.left(0, 2));
        Check.argument(x, "36 value", () -> x.left(0, -1));
        TagRounds y = killed();
        Check.same("36 not KILLED ones", y.left(3, 0), 0);
    }

    private static TagRounds killed() {
        TagRounds x = Check.with(1);
        x.store(0, 0, 1, 5);
        int h = Check.open(x, 2);
        x.pass(0, h, Check.cover(x, h), true);
        Check.same("kill", x.pass(0, h, Check.cover(x, h) ^ 5, true), 1);
        return x;
    }

    private static void promise37() {
        TagRounds x = new TagRounds();
        Check.same("37 rate", x.rate(1, 15), 30);
        Check.same("37 rate", x.rate(4, 2), 421875);
        Check.same("37 rate", x.rate(5, 2), 395507);
        Check.same("37 rounded down each time", x.rate(3, 1), 375000);
        Check.same("37 rate", x.rate(99, 0), 0);
        Check.same("37 many", x.rate(99, 7), 358567);
        for (int n = 1; n <= 99; n++) {
            Check.same("37 BEST of " + n, x.rate(n, -1), bestOf(n));
        }
        Check.same("37 BEST of 1", x.rate(1, -1), 0);
        Check.same("37 BEST of 2", x.rate(2, -1), 1);
        Check.argument(x, "37 n", () -> x.rate(0, 0));
        Check.argument(x, "37 n", () -> x.rate(100, -1));
        Check.argument(x, "37 n", () -> x.rate(-1, 0));
        Check.argument(x, "37 q", () -> x.rate(1, 16));
        Check.argument(x, "37 q", () -> x.rate(1, -2));
    }

    private static int bestOf(int n) {
        TagRounds x = new TagRounds();
        int best = 0;
        for (int q = 0; q < 16; q++) {
            best = x.rate(n, q) > x.rate(n, best) ? q : best;
        }
        return best;
    }

    private static void promise38() {
        TagRounds x = killed();
        Check.same("38 TAGS", x.count(0), 1);
        Check.same("38 KILLED", x.count(7), 1);
        Check.same("38 with POWER", x.count(6), 1);
        x.power(0, false);
        Check.same("38 with POWER", x.count(6), 0);
        Check.same("38 KILLED", x.count(7), 1);
        x.add(0, 1, 0, 0);
        x.power(1, true);
        x.power(3, true);
        Check.same("38 ON", x.count(5), 10);
        x.add(8, 1, 0, 0);
        Check.same("38 with POWER", x.count(6), 4);
        Check.same("38 MATCH, KILLED and without POWER too", x.count(10), 7);
        x.time(0, 77);
        x.time(1, 78);
        x.time(2, 79);
        Check.same("38 FRAME", x.count(2), 77);
        Check.same("38 HOLD", x.count(3), 78);
        Check.same("38 KEEP", x.count(4), 79);
        x.slice(1, 0, 77);
        x.slice(3, 0, 77);
        Check.same("38 DARK", x.count(11), 0);
        x.move(2, 10);
        Check.same("38 DARK", x.count(11), 4);
        Check.same("38 colours", x.count(9), 2);
        x.slice(3, 0, 76);
        Check.same("38 DARK", x.count(11), 0);
        x.move(0, 10);
        x.slice(3, 0, 77);
        Check.same("38 DARK, KILLED too", x.count(11), 5);
        Check.same("38 another", x.count(12), -1);
        Check.same("38 another", x.count(-1), -1);
        Check.same("38 another", x.count(Integer.MIN_VALUE), -1);
        x.rest(9);
        int now = x.count(1);
        Check.same("38 NOW", x.rest(1), now + 1);
    }

    // TAGS that MATCH are told one by one, not counted.
    private static void promise38Match() {
        TagRounds x = new TagRounds();
        Check.same("38 MATCH, no TAGS", x.count(10), 0);
        for (int i = 0; i < 16; i++) {
            x.add(i % 2, 1, i << 16, 0);
            Check.same("38 MATCH, LONG 0", x.count(10), (2 << i) - 1);
        }
        for (int i = 0; i < 16; i++) {
            x.mask(1, 32, 16, i);
            Check.same("38 MATCH, just one", x.count(10), 1 << i);
        }
        x.mask(1, 47, 1, 1);
        Check.same("38 MATCH, the odd ones", x.count(10), 0xaaaa);
        x.store(0, 1, 2, 1);
        Check.same("38 MATCH, another word", x.count(10), 0xaaab);
        x.power(0, true);
        Check.same("11 how many, as a number", x.select(0, 0, 0), 8);
        Check.same("38 MATCH, behind a SELECT", x.count(10), 0xaaab);
        x.mask(1, 48, 1, 0);
        Check.same("38 MATCH, beyond the BANK", x.count(10), 0);
        x.mask(1, 48, 0, 0);
        Check.same("38 MATCH, LONG 0 beyond the BANK", x.count(10), 65535);
    }

    public static void main(String[] args) {
        promise30();
        promise31();
        promise32();
        promise35();
        promise36();
        promise37();
        promise38();
        promise38Match();
        Check.end("AskTest");
    }
}
