/** Terms 2 (FLAGS) and promises 31, 32, 36: each sentence that names an edge, in its own words. */
public final class EdgeFlagTest {
    private static final int TELLS_B = 5;
    private static final int TELLS_A = 1;

    // Tells the FLAG 1: ACTION 5 tells B, ACTION 1 tells 1 of PICKED.
    private static void set(TagRounds x, int f) {
        x.select(0, f, f == 4 ? TELLS_A : TELLS_B);
    }

    private static void first() {
        Check.sentence("4: PICKED (1) or not (0); all 0 at first");
        TagRounds x = Check.with(2);
        for (int f = 0; f < 5; f++) {
            Check.same("flag " + f, x.flag(0, f) + x.flag(1, f), 0);
        }
        set(x, 4);
        Check.same("PICKED", x.flag(1, 4), 1);
        Check.same("and no other", x.flag(1, 0) + x.flag(1, 1) + x.flag(1, 2) + x.flag(1, 3), 0);
    }

    private static void session0() {
        Check.sentence("B of SESSION 0 lasts as long as there is POWER.");
        TagRounds x = Check.with(1);
        set(x, 0);
        x.rest(9999);
        Check.same("with POWER", x.flag(0, 0), 1);
        x.power(1, true);
        x.move(0, 3);
        x.move(0, 2);
        x.power(0, false);
        Check.same("with POWER of another READER", x.flag(0, 0), 1);
        x.move(0, 1);
        Check.same("without", x.flag(0, 0), 0);
        x.move(0, 2);
        Check.same("and not again", x.flag(0, 0), 0);
        TagRounds y = Check.with(1);
        set(y, 0);
        y.power(0, false);
        y.power(0, true);
        Check.same("not a tick without POWER", y.flag(0, 0), 0);
    }

    // Behind so many ticks since B of SESSION 1 was told, with POWER or without.
    private static void held(int hold, int behind, boolean powered, int due) {
        TagRounds x = Check.with(1);
        x.time(1, hold);
        set(x, 1);
        x.power(0, powered);
        Check.until(x, behind);
        Check.same("B with HOLD " + hold + " behind " + behind + (powered ? "" : ", without POWER"), x.flag(0, 1), due);
    }

    private static void session1() {
        Check.sentence("B of SESSION 1 lasts HOLD ticks from when it was told B latest, with POWER or without.");
        for (int i = 0; i < 2; i++) {
            held(500, 499, i == 0, 1);
            held(500, 500, i == 0, 0);
            held(9999, 9998, i == 0, 1);
            held(9999, 9999, i == 0, 0);
            held(6, 5, i == 0, 1);
            held(5, 5, i == 0, 0);
            held(1, 5, i == 0, 0);
        }
        TagRounds again = Check.with(1);
        set(again, 1);
        Check.until(again, 400);
        set(again, 1);
        Check.until(again, 899);
        Check.same("told B again at 400", again.flag(0, 1), 1);
        again.rest(1);
        Check.same("told B again at 400, gone at 900", again.flag(0, 1), 0);
        TagRounds told = Check.with(1);
        set(told, 1);
        Check.until(told, 495);
        set(told, 1);
        Check.same("told B as it would go", told.fades(0, 1), 495);
        TagRounds other = Check.with(1);
        set(other, 1);
        Check.until(other, 400);
        set(other, 2);
        other.power(0, false);
        other.power(0, true);
        Check.until(other, 499);
        Check.same("nothing else counts", other.flag(0, 1), 1);
        other.rest(1);
        Check.same("nothing else counts", other.flag(0, 1), 0);
        flipped();
    }

    // A FLAG that FLIPS to B is told B as the command begins, not when its ticks have gone.
    private static void flipped() {
        TagRounds x = Check.with(1);
        Check.open(x, 1);
        int now = x.count(1);
        x.adjust(0, 1, 0);
        Check.same("from ADJUST on", x.fades(0, 1), 500 - (x.count(1) - now));
        Check.until(x, now + 499);
        Check.same("flipped by ADJUST", x.flag(0, 1), 1);
        x.rest(1);
        Check.same("flipped by ADJUST", x.flag(0, 1), 0);
        TagRounds y = Check.with(1);
        Check.open(y, 1);
        now = y.count(1);
        y.query(0, 0, 1, 1, 0);
        Check.same("from QUERY on", y.fades(0, 1), 500 - (y.count(1) - now));
        y.select(0, 1, 3);
        Check.same("back to A", y.flag(0, 1), 0);
        now = y.count(1);
        y.select(0, 1, 3);
        Check.same("by SELECT", y.fades(0, 1), 495);
        Check.same("by SELECT", y.count(1), now + 5);
    }

    private static void kept() {
        Check.sentence("B of 2 and 3, and PICKED, last as long as there is POWER, and KEEP ticks more.");
        for (int f = 2; f < 5; f++) {
            for (int keep : new int[] {1, 2, 1000, 9999}) {
                TagRounds x = Check.with(1);
                x.time(2, keep);
                set(x, f);
                x.rest(9999);
                x.rest(9999);
                Check.same("with POWER, flag " + f, x.flag(0, f), 1);
                x.power(0, false);
                Check.same("at once, flag " + f, x.flag(0, f), 1);
                if (keep > 1) {
                    x.rest(keep - 1);
                    Check.same("one tick ahead of KEEP " + keep, x.flag(0, f), 1);
                }
                x.rest(1);
                Check.same("behind KEEP " + keep, x.flag(0, f), 0);
            }
        }
        TagRounds x = Check.with(1);
        set(x, 2);
        for (int i = 0; i < 3; i++) {
            x.power(0, false);
            x.rest(999);
            Check.same("POWER comes back in time", x.flag(0, 2), 1);
            x.power(0, true);
        }
        x.rest(1);
        x.power(0, false);
        x.rest(999);
        x.move(0, 0);
        x.power(0, true);
        x.rest(1);
        Check.same("POWER of a READER that does not reach it", x.flag(0, 2), 0);
    }

    private static void edges() {
        Check.sentence("(HOLD, KEEP 1 to 9999; 500, 1000 at first; it has gone by, as soon as so many ticks have.");
        TagRounds x = Check.with(1);
        Check.same("HOLD at first", x.time(1, 1), 500);
        Check.same("KEEP at first", x.time(2, 1), 1000);
        set(x, 1);
        Check.same("HOLD 1", x.flag(0, 1), 0);
        set(x, 2);
        x.power(0, false);
        Check.same("KEEP 1, no tick yet", x.flag(0, 2), 1);
        x.rest(1);
        Check.same("KEEP 1", x.flag(0, 2), 0);
        for (int what = 1; what < 3; what++) {
            int kind = what;
            x.time(what, 9999);
            Check.argument(x, "0", () -> x.time(kind, 0));
            Check.argument(x, "10000", () -> x.time(kind, 10000));
            Check.same("the greatest", x.count(2 + what), 9999);
        }
        TagRounds end = Check.with(1);
        Check.until(end, 99980);
        set(end, 1);
        end.time(1, 19);
        Check.until(end, 99998);
        Check.same("one tick ahead of the end of NOW", end.flag(0, 1), 1);
        end.rest(9999);
        Check.same("at the end of NOW", end.flag(0, 1), 0);
    }

    private static void gone() {
        Check.sentence("What is gone so stays 0, whatever HOLD, KEEP are told then.)");
        TagRounds x = Check.with(1);
        set(x, 1);
        Check.until(x, 300);
        x.time(1, 301);
        Check.same("one tick is left", x.flag(0, 1), 1);
        x.time(1, 300);
        Check.same("none is left", x.flag(0, 1), 0);
        x.time(1, 9999);
        Check.same("HOLD told then", x.flag(0, 1), 0);
        set(x, 1);
        Check.same("but told B anew", x.flag(0, 1), 1);
        TagRounds y = Check.with(1);
        for (int f = 2; f < 5; f++) {
            set(y, f);
        }
        y.power(0, false);
        y.rest(300);
        y.time(2, 301);
        Check.same("one tick is left", y.flag(0, 2) + y.flag(0, 3) + y.flag(0, 4), 3);
        y.time(2, 300);
        Check.same("none is left", y.flag(0, 2) + y.flag(0, 3) + y.flag(0, 4), 0);
        y.time(2, 9999);
        y.power(0, true);
        Check.same("KEEP told then", y.flag(0, 2) + y.flag(0, 3) + y.flag(0, 4), 0);
        TagRounds longer = Check.with(1);
        set(longer, 1);
        set(longer, 2);
        longer.power(0, false);
        Check.until(longer, 499);
        longer.time(1, 9999);
        Check.until(longer, 1009);
        longer.time(2, 9999);
        Check.until(longer, 9998);
        Check.same("HOLD told in time", longer.flag(0, 1), 1);
        longer.rest(1);
        Check.same("HOLD told in time", longer.flag(0, 1), 0);
        Check.until(longer, 10008);
        Check.same("KEEP told in time", longer.flag(0, 2), 1);
        longer.rest(1);
        Check.same("KEEP told in time", longer.flag(0, 2), 0);
    }

    private static void ready() {
        Check.sentence("Without POWER a TAG is READY, but a KILLED one is.");
        for (int state = 0; state <= 6; state++) {
            TagRounds x = Check.inState(state);
            x.power(0, false);
            Check.same("without POWER from " + state, x.tag(0, 2), state == 6 ? 6 : 0);
            x.power(0, true);
            Check.same("with POWER again", x.tag(0, 2), state == 6 ? 6 : 0);
            TagRounds y = Check.inState(state);
            y.move(0, 14);
            Check.same("moved away from " + state, y.tag(0, 2), state == 6 ? 6 : 0);
            TagRounds z = Check.inState(state);
            z.power(1, true);
            z.move(0, 2);
            Check.same("POWER all the while in " + state, z.tag(0, 2), state);
        }
        Check.sentence("One that begins to WAIT, is READY, or has no POWER has no HANDLE, no COVER.");
        for (int i = 0; i < 5; i++) {
            TagRounds x = Check.inState(4 + i % 2);
            int handle = x.tag(0, 5);
            Check.cover(x, handle);
            Check.same("COVER", x.tag(0, 6) >= 0, true);
            switch (i) {
                case 0: x.nak(0); break;
                case 1: x.select(0, 0, 0); break;
                case 2: x.next(0, 2); break;
                case 3: x.query(0, 2, 3, 0, 0); break;
                default: x.move(0, 0); break;
            }
            Check.same("STATE " + i, x.tag(0, 2), i == 0 ? 1 : 0);
            Check.same("no HANDLE " + i, x.tag(0, 5), -1);
            Check.same("no COVER " + i, x.tag(0, 6), -1);
        }
        TagRounds x = Check.inState(5);
        Check.cover(x, x.tag(0, 5));
        x.seed(0, Draws.seedFor(1));
        x.query(0, 0, 3, 0, 1);
        Check.same("WAITS by a SLOT", x.tag(0, 2), 1);
        Check.same("no HANDLE", x.tag(0, 5), -1);
        Check.same("no COVER", x.tag(0, 6), -1);
        TagRounds killed = Check.inState(6);
        killed.power(0, false);
        Check.same("KILLED, without POWER", killed.tag(0, 5), -1);
    }

    private static void promise31() {
        Check.sentence("A FLAG of a TAG (0 to 4) now. IllegalArgumentException: there is no such one.");
        TagRounds x = Check.with(1);
        for (int f = 0; f < 5; f++) {
            Check.same("ahead", x.flag(0, f), 0);
            set(x, f);
            Check.same("behind", x.flag(0, f), 1);
        }
        for (int f : new int[] {-1, 5, Integer.MIN_VALUE, Integer.MAX_VALUE}) {
            Check.argument(x, "flag " + f, () -> x.flag(0, f));
            Check.index(x, "flag " + f + " of no TAG", () -> x.flag(1, f));
        }
        Check.index(x, "TAG -1", () -> x.flag(-1, 0));
        Check.index(x, "TAG 16", () -> x.flag(16, 0));
    }

    private static void promise32() {
        Check.sentence("How many ticks from NOW on it is 1, if nothing is told, and READERS stay as they are; NONE, if it is 0 (also PICKED), or stays so.");
        TagRounds x = Check.with(1);
        for (int f = 0; f < 5; f++) {
            Check.same("it is 0", x.fades(0, f), -1);
            set(x, f);
        }
        for (int f : new int[] {0, 2, 3, 4}) {
            Check.same("it stays so", x.fades(0, f), -1);
        }
        Check.same("HOLD", x.fades(0, 1), 480);
        x.power(0, false);
        Check.same("it is 0", x.fades(0, 0), -1);
        for (int f = 2; f < 5; f++) {
            Check.same("KEEP", x.fades(0, f), 1000);
        }
        x.rest(479);
        Check.same("the last tick of HOLD", x.fades(0, 1), 1);
        x.rest(1);
        Check.same("HOLD gone", x.fades(0, 1), -1);
        x.rest(519);
        for (int f = 2; f < 5; f++) {
            Check.same("the last tick of KEEP", x.fades(0, f), 1);
        }
        x.rest(1);
        for (int f = 2; f < 5; f++) {
            Check.same("KEEP gone", x.fades(0, f), -1);
        }
        TagRounds y = Check.with(1);
        set(y, 2);
        y.power(0, false);
        y.rest(7);
        y.power(0, true);
        Check.same("stays so again", y.fades(0, 2), -1);
        y.power(0, false);
        Check.same("KEEP anew", y.fades(0, 2), 1000);
        for (int f : new int[] {-1, 5, Integer.MIN_VALUE, Integer.MAX_VALUE}) {
            Check.argument(x, "fades " + f, () -> x.fades(0, f));
            Check.index(x, "fades " + f + " of no TAG", () -> x.fades(1, f));
        }
        Check.index(x, "TAG -1", () -> x.fades(-1, 0));
    }

    private static void promise36() {
        Check.sentence("TAGS with POWER, not KILLED, whose FLAG is that, as bits. IllegalArgumentException: a number is none.");
        TagRounds x = Check.inState(6);
        x.add(1, 1, 0x50000000, 0);
        x.add(2, 1, 0x50000000, 0);
        x.add(1, 1, 0x60000000, 0);
        x.mask(1, 32, 4, 5);
        for (int f = 0; f < 5; f++) {
            Check.same("0 of " + f, x.left(f, 0), 2 + 8);
            Check.same("1 of " + f, x.left(f, 1), 0);
            set(x, f);
            Check.same("1 of " + f, x.left(f, 1), 2);
            Check.same("0 of " + f, x.left(f, 0), 8);
        }
        x.power(0, false);
        for (int f = 0; f < 5; f++) {
            Check.same("none with POWER", x.left(f, 0) + x.left(f, 1), 0);
        }
        int[][] none = {{-1, 0}, {5, 0}, {0, -1}, {0, 2}, {Integer.MIN_VALUE, 0}, {Integer.MAX_VALUE, 1}, {4, Integer.MAX_VALUE}, {4, Integer.MIN_VALUE}};
        for (int[] n : none) {
            Check.argument(x, "left " + n[0] + ", " + n[1], () -> x.left(n[0], n[1]));
        }
        TagRounds full = new TagRounds();
        for (int i = 0; i < 16; i++) {
            full.add(1, 1, 0, 0);
        }
        full.power(0, true);
        Check.same("all 16", full.left(4, 0), 65535);
    }

    public static void main(String[] args) {
        first();
        session0();
        session1();
        kept();
        edges();
        gone();
        ready();
        promise31();
        promise32();
        promise36();
        Check.end("EdgeFlagTest");
    }
}
