/** Terms 3 (STEERING) and promises 23 to 30, 35, 37, 38: each sentence that names an edge, in its own words. */
public final class EdgeSteeringTest {
    private static void steer() {
        Check.sentence("AIM 0 to 1500 (400 at first): hundredths of q; PUSH 1 to 100 (25).");
        TagRounds x = new TagRounds();
        for (int r = 0; r < 4; r++) {
            int reader = r;
            Check.same("AIM at first", x.steer(r, 0, 0), 400);
            Check.same("the least AIM", x.steer(r, 0, 1500), 0);
            Check.same("the greatest AIM", x.reader(r, 2), 1500);
            Check.same("PUSH at first", x.steer(r, 1, 1), 25);
            Check.same("the least PUSH", x.steer(r, 1, 100), 1);
            Check.same("the greatest PUSH", x.reader(r, 3), 100);
            for (int n : new int[] {-1, 1501, Integer.MIN_VALUE, Integer.MAX_VALUE}) {
                Check.argument(x, "AIM " + n, () -> x.steer(reader, 0, n));
            }
            for (int n : new int[] {0, 101, -1, Integer.MIN_VALUE, Integer.MAX_VALUE}) {
                Check.argument(x, "PUSH " + n, () -> x.steer(reader, 1, n));
            }
        }
        Check.sentence("AIM (what 0), PUSH (1) of a READER is told: what it was. NoSuchElementException: another what; IllegalArgumentException: n is none.");
        for (int what : new int[] {-1, 2, Integer.MIN_VALUE, Integer.MAX_VALUE}) {
            Check.element(x, "what " + what, () -> x.steer(0, what, 1));
            Check.element(x, "what " + what + ", and n is none", () -> x.steer(0, what, -1));
            Check.index(x, "what " + what + ", no READER", () -> x.steer(4, what, -1));
        }
        Check.index(x, "READER -1, and n is none", () -> x.steer(-1, 0, -1));
    }

    // SLOTS, EMPTY, SINGLE, CLASHES, READ, AIM behind a ROUND of READER 0.
    private static void rounded(String what, TagRounds x, int... due) {
        String[] names = {"SLOTS", "EMPTY", "SINGLE", "CLASHES", "READ"};
        for (int i = 0; i < 5; i++) {
            Check.same(what + ": " + names[i], x.reader(0, 4 + i), due[i]);
        }
        Check.same(what + ": AIM", x.reader(0, 2), due[5]);
    }

    private static void aims() {
        Check.sentence("q of AIM: AIM and 50 by 100, rounded down.");
        int[][] known = {{0, 0}, {49, 0}, {50, 1}, {149, 1}, {150, 2}, {400, 4}, {449, 4}, {450, 5}, {1449, 14}, {1450, 15}, {1500, 15}};
        for (int[] k : known) {
            TagRounds x = Check.with(2);
            x.steer(0, 0, k[0]);
            x.steer(0, 1, 1);
            x.seed(0, Draws.seedFor(65535));
            x.seed(1, Draws.seedFor(65535));
            x.round(0, 0, 1, 0, 1);
            Check.same("q of " + k[0], x.tag(0, 8), k[1]);
            TagRounds y = Check.with(0);
            y.steer(0, 0, k[0]);
            int now = y.count(1);
            y.steer(0, 1, 1);
            y.round(0, 0, 1, 0, 1);
            Check.same("a QUERY and a NEXT", y.count(1) - now, 5 + 2);
        }
    }

    private static void left() {
        Check.sentence("QUERY with q of AIM; LEFT is 2 to the power of q.");
        for (int q = 0; q < 7; q++) {
            TagRounds x = Check.with(0);
            x.steer(0, 1, 1);
            int aim = q == 6 ? 649 : 100 * q;
            x.steer(0, 0, aim);
            x.round(0, 0, 0, 0, 400);
            rounded("SLOTS with q " + q, x, 1 << q, 1 << q, 0, 0, 0, Math.max(0, aim - (1 << q)));
        }
    }

    private static void most() {
        Check.sentence("at most so many SLOTS (1 to 400)");
        TagRounds x = Check.with(0);
        x.steer(0, 0, 1500);
        x.steer(0, 1, 1);
        for (int most : new int[] {1, 2, 399, 400}) {
            x.steer(0, 0, 1500);
            x.round(0, 0, 0, 0, most);
            Check.same("SLOTS", x.reader(0, 4), most);
        }
        for (int most : new int[] {0, 401, -1, Integer.MIN_VALUE, Integer.MAX_VALUE}) {
            Check.argument(x, "most " + most, () -> x.round(0, 0, 0, 0, most));
        }
        Check.sentence("Then: were there so many SLOTS, NEXT, and the ROUND is over");
        TagRounds y = Check.with(0);
        y.steer(0, 0, 50);
        y.steer(0, 1, 1);
        y.round(0, 0, 3, 0, 1);
        rounded("q of AIM is another one by then", y, 1, 1, 0, 0, 0, 49);
        Check.text("NEXT, no ADJUST", Check.sent(y), "0011");
        Check.same("NEXT takes its ticks", y.count(1), 5 + 2);
        TagRounds z = Check.with(2);
        z.seed(1, 1);
        z.steer(0, 0, 0);
        z.steer(0, 1, 1);
        z.round(0, 0, 2, 0, 1);
        Check.text("LEFT is 0 with a CLASH: NEXT, no QUERY", Check.sent(z), "0010");
        rounded("LEFT is 0 with a CLASH", z, 1, 0, 0, 1, 0, 1);
        TagRounds known = Check.with(1);
        known.steer(0, 0, 0);
        known.round(0, 0, 2, 0, 1);
        Check.same("NEXT is done", known.flag(0, 2), 1);
        Check.same("NEXT is done", known.tag(0, 2), 0);
    }

    private static void pushes() {
        Check.sentence("EMPTY (none): AIM is PUSH less (0 at least)");
        int[][] known = {{100, 100, 0}, {100, 99, 0}, {100, 101, 1}, {100, 0, 0}, {1, 1, 0}, {25, 400, 375}, {1, 1500, 1499}};
        for (int[] k : known) {
            TagRounds x = Check.with(0);
            x.steer(0, 1, k[0]);
            x.steer(0, 0, k[1]);
            x.round(0, 0, 0, 0, 1);
            rounded("AIM " + k[1] + ", PUSH " + k[0], x, 1, 1, 0, 0, 0, k[2]);
        }
        Check.sentence("CLASH: PUSH more (1500 at most)");
        known = new int[][] {{100, 1400, 1500}, {100, 1401, 1500}, {100, 1399, 1499}, {100, 1500, 1500}, {1, 1499, 1500}, {1, 0, 1}, {25, 400, 425}};
        for (int[] k : known) {
            TagRounds x = Check.with(2);
            x.seed(0, Draws.seedFor(0));
            x.seed(1, Draws.seedFor(0));
            x.steer(0, 1, k[0]);
            x.steer(0, 0, k[1]);
            x.round(0, 0, 0, 0, 1);
            rounded("AIM " + k[1] + ", PUSH " + k[0], x, 1, 0, 0, 1, 0, k[2]);
        }
        Check.sentence("SINGLE: ACK of what was HEARD; is that answered by one, it is READ.");
        for (int aim : new int[] {0, 400, 1500}) {
            TagRounds x = Check.with(1);
            x.seed(0, Draws.seedFor(0));
            x.steer(0, 0, aim);
            x.round(0, 0, 2, 0, 1);
            rounded("AIM stays by a SINGLE", x, 1, 0, 1, 0, 1, aim);
            Check.same("READ", x.tag(0, 11), 1);
            Check.same("READ", x.log(0, 1), 0);
        }
        unread();
    }

    // A SINGLE slot whose ACK is not answered by one.
    private static void unread() {
        TagRounds none = Check.with(1);
        none.move(0, 3);
        none.power(1, true);
        none.time(0, 100);
        none.slice(1, 7, 1);
        none.steer(0, 0, 0);
        Check.same("the ACK is not HEARD", none.round(0, 0, 0, 0, 1), 0);
        rounded("the ACK is not HEARD", none, 1, 0, 1, 0, 0, 0);
        Check.same("not READ", none.count(8) + none.reader(0, 11) + none.tag(0, 11), 0);
        Check.same("not in the log", none.log(0, 1), -1);
        TagRounds two = Check.with(2);
        two.move(0, 2);
        two.move(1, 1);
        two.power(1, true);
        two.seed(0, Draws.seedFor(0, 0, 4444));
        two.seed(1, Draws.seedFor(0, 0, 4444));
        two.query(1, 0, 0, 0, 0);
        two.ack(1, 4444);
        Check.same("TAG 0 is KNOWN with that NUMBER", two.tag(0, 4), 4444);
        two.move(0, 7);
        two.power(2, true);
        two.time(0, 999);
        two.slice(2, two.count(1), 1);
        two.steer(0, 0, 0);
        Check.same("TAG 0 hears just the ACK: two answer", two.round(0, 0, 3, 0, 1), 0);
        rounded("two answer the ACK", two, 1, 0, 1, 0, 0, 0);
        Check.same("not READ", two.count(8), 0);
        Check.same("both are KNOWN, then by NEXT the one of that SESSION READY", two.tag(0, 2) * 10 + two.tag(1, 2), 30);
    }

    private static void goesOn() {
        Check.sentence("is q of AIM another one: ADJUST towards it by 1, that is q then, LEFT is 2 to the power of it");
        TagRounds down = Check.with(0);
        down.steer(0, 0, 150);
        down.steer(0, 1, 1);
        down.round(0, 0, 3, 0, 2);
        rounded("down", down, 2, 2, 0, 0, 0, 148);
        Check.same("ticks of QUERY, ADJUST, NEXT", down.count(1), 5 + 3 + 2);
        down.steer(0, 0, 150);
        down.round(0, 0, 3, 0, 400);
        rounded("LEFT of the new q: 1 of 4 SLOTS, then 2", down, 3, 3, 0, 0, 0, 147);
        TagRounds tag = Check.with(1);
        tag.seed(0, Draws.seedFor(3));
        tag.steer(0, 0, 150);
        tag.steer(0, 1, 1);
        tag.round(0, 0, 3, 0, 1);
        Check.same("q 2", tag.tag(0, 8), 2);
        TagRounds up = Check.with(2);
        up.steer(0, 0, 49);
        up.steer(0, 1, 1);
        up.seed(1, 1);
        up.round(0, 0, 3, 0, 2);
        Check.same("q 1 by ADJUST", up.tag(0, 8), 1);
    }

    private static void leftIsNone() {
        Check.sentence("is LEFT 0: if there was a CLASH since the latest QUERY or ADJUST, QUERY with q anew, LEFT likewise, else NEXT, and it is over; else NEXT");
        TagRounds empty = Check.with(0);
        empty.steer(0, 0, 200);
        empty.steer(0, 1, 1);
        empty.round(0, 0, 1, 0, 400);
        rounded("no CLASH", empty, 4, 4, 0, 0, 0, 196);
        Check.same("QUERY, three NEXT, one more", empty.count(1), 5 + 3 * 2 + 2);
        empty.steer(0, 0, 200);
        empty.round(0, 0, 1, 0, 4);
        rounded("so many SLOTS as LEFT", empty, 4, 4, 0, 0, 0, 196);
        TagRounds clash = Check.with(2);
        clash.steer(0, 0, 100);
        clash.steer(0, 1, 1);
        int seed = Draws.seedFor(0, 1, 5);
        clash.seed(0, seed);
        clash.seed(1, seed);
        clash.round(0, 0, 1, 0, 3);
        Check.same("QUERY anew behind two SLOTS", clash.reader(0, 4), 3);
        Check.same("of that SESSION", clash.tag(0, 7), 1);
        Check.same("with q", clash.tag(0, 8), 1);
        TagRounds left = Check.with(2);
        left.steer(0, 0, 100);
        left.steer(0, 1, 1);
        left.seed(0, seedDrawing(0, 0));
        left.seed(1, seedDrawing(0, 1));
        // QUERY: CLASH; NEXT: EMPTY; LEFT is 0: QUERY: SINGLE; NEXT: SINGLE; LEFT is 0, no CLASH since
        left.round(0, 0, 1, 0, 400);
        rounded("LEFT and CLASH begin anew by the QUERY", left, 4, 1, 2, 1, 2, 100);
        askedAnew();
        TagRounds ahead = Check.with(2);
        ahead.steer(0, 0, 49);
        ahead.steer(0, 1, 1);
        apart(ahead);
        // QUERY q 0: CLASH, AIM 50; ADJUST to q 1: one SINGLE; NEXT: the other; LEFT is 0, no CLASH since the ADJUST
        ahead.round(0, 0, 2, 0, 400);
        rounded("the CLASH was ahead of the ADJUST", ahead, 3, 0, 2, 1, 2, 50);
        Check.same("over by NEXT", ahead.sent(-1), 4);
    }

    // Two TAGS that clash for ever; the third is of the other which, the fourth of the other TARGET.
    private static void askedAnew() {
        for (int which = 0; which < 3; which++) {
            for (int target = 0; target < 2; target++) {
                TagRounds x = Check.with(4);
                x.seed(1, 1);
                x.steer(0, 0, 0);
                x.steer(0, 1, 1);
                x.mask(1, 32, 16, 0x1236);
                x.select(0, 4, which == 1 ? 0 : 4);
                x.mask(1, 32, 16, 0x1237);
                x.select(0, 3, target == 0 ? 4 : 0);
                x.round(0, which, 3, target, 5);
                rounded("QUERY anew of which " + which + ", TARGET " + target, x, 5, 0, 0, 5, 0, 5);
                Check.same("of the SESSION", x.tag(0, 7), 3);
                Check.same("READY, or of the ROUND with which 0", x.tag(2, 2) == 0, which > 0);
                Check.same("READY, of the other TARGET", x.tag(3, 2), 0);
            }
        }
    }

    private static void begins() {
        Check.sentence("Each QUERY, ADJUST, NEXT but the last begins a SLOT.");
        TagRounds x = Check.with(1);
        x.steer(0, 0, 0);
        x.round(0, 0, 2, 0, 400);
        rounded("QUERY, ACK, NEXT: one SLOT", x, 1, 0, 1, 0, 1, 0);
        Check.same("its ticks", x.count(1), 7 + 7 + 2);
        Check.text("NEXT at last", Check.sent(x), "0010");
        Check.same("nobody answers the last", x.heard(-1), 0);
        TagRounds last = Check.with(1);
        last.seed(0, Draws.seedFor(1));
        last.steer(0, 0, 100);
        Check.same("one whose SLOT is begun by no SLOT", last.round(0, 0, 2, 0, 1), 0);
        Check.same("it REPLIES to the last NEXT", last.tag(0, 2), 2);
        rounded("and is no SINGLE", last, 1, 1, 0, 0, 0, 75);
    }

    // A SEED of one that with q 1 is in that SLOT first, and when asked anew in this one.
    private static int seedDrawing(int first, int then) {
        int seed = 1;
        while (new Draws(seed).next() % 2 != first || new Draws(seed).skip(3) % 2 != then) {
            seed++;
        }
        return seed;
    }

    // Both clash with q 0, then the one takes the first and the other the second of two SLOTS.
    private static void apart(TagRounds x) {
        int seed = 1;
        while (new Draws(seed).skip(3) % 2 == 0) {
            seed++;
        }
        x.seed(0, seed);
        while (new Draws(seed).skip(3) % 2 != 0) {
            seed++;
        }
        x.seed(1, seed);
    }

    private static TagRounds late(int now, int tags) {
        TagRounds x = Check.with(tags);
        x.steer(0, 0, 0);
        Check.until(x, now);
        return x;
    }

    private static void over() {
        Check.sentence("(Ahead of any command of it, the ACK too: if NOW is 99999, the ROUND is over.)");
        // QUERY takes 4 + 3 ticks, ACK 2 + 5, NEXT 1 + 1: READ or not, and the STATE in the end
        int[][] singles = {{99984, 1, 0}, {99985, 1, 3}, {99986, 1, 3}, {99991, 1, 3}, {99992, 0, 2}, {99998, 0, 2}};
        for (int[] s : singles) {
            TagRounds x = late(s[0], 1);
            Check.same("READ from " + s[0] + " on", x.round(0, 0, 2, 0, 9), s[1]);
            rounded("from " + s[0] + " on", x, 1, 0, 1, 0, s[1], 0);
            Check.same("NOW", x.count(1), 99999);
            Check.same("STATE", x.tag(0, 2), s[2]);
            Check.same("READ in the log", x.log(0, 1), s[1] == 1 ? 0 : -1);
        }
        TagRounds acked = late(99984, 1);
        acked.round(0, 0, 2, 0, 9);
        Check.same("the NEXT has a tick left", acked.flag(0, 2), 1);
        TagRounds next = late(99985, 1);
        next.round(0, 0, 2, 0, 9);
        Check.same("the NEXT has none", next.flag(0, 2), 0);
        Check.same("ACK was the latest", next.sent(-1), 18);
        Check.same("ACK was the latest", next.heard(-1), 3);
        TagRounds empty = late(99994, 0);
        empty.steer(0, 0, 400);
        empty.round(0, 0, 0, 0, 400);
        rounded("EMPTY, then the end", empty, 1, 1, 0, 0, 0, 375);
        Check.same("QUERY was the latest", empty.sent(-1), 18);
        TagRounds adjust = late(99994, 0);
        adjust.steer(0, 0, 50);
        adjust.round(0, 0, 0, 0, 400);
        rounded("no ADJUST", adjust, 1, 1, 0, 0, 0, 25);
        Check.same("QUERY was the latest", adjust.sent(-1), 18);
        TagRounds clash = late(99993, 2);
        clash.seed(1, 1);
        clash.steer(0, 1, 1);
        clash.round(0, 0, 0, 0, 400);
        rounded("no QUERY anew", clash, 1, 0, 0, 1, 0, 1);
        TagRounds again = late(99992, 2);
        again.seed(1, 1);
        again.steer(0, 1, 1);
        again.round(0, 0, 0, 0, 400);
        rounded("one QUERY anew", again, 2, 0, 0, 2, 0, 2);
        Check.state(again, "a ROUND at the end", () -> again.round(0, 0, 0, 0, 1));
        rounded("as it was", again, 2, 0, 0, 2, 0, 2);
    }

    private static void promise24() {
        Check.sentence("A ROUND: how many were READ. IllegalArgumentException: a number is none.");
        TagRounds x = Check.with(16);
        Check.same("none of them B", x.round(0, 0, 2, 1, 400), 0);
        int read = x.round(0, 0, 2, 0, 400);
        Check.same("how many", read, x.reader(0, 8));
        for (int i = 0; i < 9; i++) {
            read += x.round(0, 0, 2, 0, 400);
        }
        Check.same("all in the end", read, 16);
        Check.same("READ ever", x.count(8), 16);
        Check.same("READ ever by READER 0", x.reader(0, 11), 16);
        Check.same("all are B", x.left(2, 1), 65535);
        Check.same("READ by READER 1", x.reader(1, 11), 0);
        int[][] none = {{-1, 0, 0, 1}, {3, 0, 0, 1}, {0, -1, 0, 1}, {0, 4, 0, 1}, {0, 0, -1, 1}, {0, 0, 2, 1}, {0, 0, 0, 0}, {0, 0, 0, 401},
            {Integer.MIN_VALUE, 0, 0, 1}, {0, Integer.MAX_VALUE, 0, 1}, {0, 0, Integer.MIN_VALUE, 1}};
        for (int[] n : none) {
            Check.argument(x, "ROUND", () -> x.round(0, n[0], n[1], n[2], n[3]));
            Check.argument(x, "ROUND, OFF", () -> x.round(1, n[0], n[1], n[2], n[3]));
            Check.index(x, "ROUND, no READER", () -> x.round(4, n[0], n[1], n[2], n[3]));
            Check.index(x, "ROUND, no READER", () -> x.round(-1, n[0], n[1], n[2], n[3]));
        }
        Check.state(x, "OFF", () -> x.round(1, 0, 0, 0, 1));
        x.power(0, false);
        Check.state(x, "OFF", () -> x.round(0, 2, 3, 1, 400));
    }

    private static String checked(String bits) {
        return bits + Model.bits(Model.check16(bits), 16);
    }

    private static void sent() {
        Check.sentence("of each number its lowest so many bits, the highest of these first");
        TagRounds x = Check.with(0);
        x.mask(3, 255, 31, 0x55555555);
        x.select(0, 4, 7);
        Check.text("SELECT", Check.sent(x), checked("1010" + "100" + "111" + "11" + "11111111" + "00011111" + "1010101010101010101010101010101"));
        x.mask(1, 0, 0, -1);
        x.select(0, 0, 0);
        Check.text("SELECT, LONG 0", Check.sent(x), checked("1010" + "000" + "000" + "01" + "00000000" + "00000000"));
        Check.sentence("up (000 of 0, 110 of 1, 011 of -1)");
        x.adjust(0, 3, -1);
        Check.text("ADJUST down", Check.sent(x), "100111011");
        x.adjust(0, 0, 0);
        Check.text("ADJUST", Check.sent(x), "100100000");
        x.adjust(0, 0, 1);
        Check.text("ADJUST up", Check.sent(x), "100100110");
        Check.sentence("ACK: 01, the number (16). NAK: 11000000.");
        for (int session = 0; session < 4; session++) {
            x.next(0, session);
            Check.text("NEXT", Check.sent(x), "00" + Model.bits(session, 2));
        }
        for (int n : new int[] {0, 1, 65535, 65536, 65537, -1, Integer.MIN_VALUE, Integer.MAX_VALUE}) {
            String number = Model.bits(n & 65535, 16);
            x.ack(0, n);
            Check.text("ACK", Check.sent(x), "01" + number);
            x.renew(0, n);
            Check.text("RENEW", Check.sent(x), checked("11000001" + number));
            x.read(0, n, 3, n, 4);
            Check.text("READ", Check.sent(x), checked("11000010" + "11" + Model.bits(n & 255, 8) + "00000100" + number));
            x.write(0, n, 2, n, 65535);
            Check.text("WRITE", Check.sent(x), checked("11000011" + "10" + Model.bits(n & 255, 8) + "1111111111111111" + number));
            x.lock(0, n, 3, 0);
            Check.text("LOCK", Check.sent(x), checked("11000101" + "11" + "00" + number));
            x.pass(0, n, 1, true);
            Check.text("PASS for KILL", Check.sent(x), checked("11000100" + "0000000000000001" + number));
            x.pass(0, n, 32768, false);
            Check.text("PASS for ACCESS", Check.sent(x), checked("11000110" + "1000000000000000" + number));
        }
        x.nak(0);
        Check.text("NAK", Check.sent(x), "11000000");
    }

    private static void checks() {
        TagRounds x = Check.with(0);
        Check.sentence("CHECK 16: as SUM, of all bits ahead of it.");
        // both worked out apart from this project
        x.renew(0, 0);
        Check.text("RENEW of 0", Check.sent(x), "110000010000000000000000" + "0010001010100100");
        x.select(0, 0, 0);
        Check.text("SELECT", Check.sent(x), "1010000000010000000000000000" + "1010100000101000");
        Check.sentence("CHECK 5: a row of 5 bits, 9 first; for each bit ahead: is its highest bit unlike it, it is twice as much (5 bits), xor 9, else twice as much.");
        x.query(0, 0, 0, 0, 0);
        Check.text("QUERY of zeros", Check.sent(x), "1000000000000" + "00001");
        x.query(0, 2, 3, 1, 15);
        Check.text("QUERY of the greatest", Check.sent(x), "1000101111111" + "11001");
        x.query(0, 1, 1, 0, 4);
        Check.text("QUERY", Check.sent(x), "1000010100100" + "00001");
    }

    private static void promise25() {
        Check.sentence("Bit k of what was SENT; how many for k NONE (0 ahead of any); NONE without.");
        TagRounds fresh = Check.with(0);
        Check.same("ahead of any", fresh.sent(-1), 0);
        Check.same("ahead of any", fresh.sent(0), -1);
        int[] lengths = {44, 18, 9, 4, 18, 8, 40, 58, 66, 44, 56};
        for (int i = 0; i < lengths.length; i++) {
            switch (i) {
                case 0: fresh.select(0, 0, 0); break;
                case 1: fresh.query(0, 0, 0, 0, 0); break;
                case 2: fresh.adjust(0, 0, 0); break;
                case 3: fresh.next(0, 0); break;
                case 4: fresh.ack(0, 0); break;
                case 5: fresh.nak(0); break;
                case 6: fresh.renew(0, 0); break;
                case 7: fresh.read(0, 0, 0, 0, 1); break;
                case 8: fresh.write(0, 0, 0, 0, 0); break;
                case 9: fresh.lock(0, 0, 0, 0); break;
                default: fresh.pass(0, 0, 0, true); break;
            }
            Check.same("how many of command " + i, fresh.sent(-1), lengths[i]);
            Check.same("the last one", fresh.sent(lengths[i] - 1) >= 0, true);
            for (int k : new int[] {lengths[i], lengths[i] + 1, 79, 80, -2, Integer.MIN_VALUE, Integer.MAX_VALUE}) {
                Check.same("without " + k, fresh.sent(k), -1);
            }
        }
        fresh.mask(1, 0, 31, 0);
        fresh.select(0, 0, 0);
        Check.same("the longest", fresh.sent(-1), 75);
        Check.same("its last bit", fresh.sent(74) >= 0, true);
        Check.same("behind it", fresh.sent(75), -1);
        Check.state(fresh, "refused", () -> fresh.next(1, 0));
        Check.argument(fresh, "refused", () -> fresh.next(0, 4));
        Check.same("a refused one is not SENT", fresh.sent(-1), 75);
        fresh.power(3, true);
        fresh.next(3, 0);
        Check.same("of any READER", fresh.sent(-1), 4);
    }

    private static void foresee() {
        Check.sentence("were it to QUERY all so now: of SLOTS 0 to 2 to the power of q, less 1, how many would be EMPTY, SINGLE, CLASHES, which is the first SINGLE one (as DRAWS will be; nothing is drawn)");
        TagRounds x = Check.with(3);
        for (int q = 0; q < 16; q++) {
            int last = (1 << q) - 1;
            x.seed(0, Draws.seedFor(last));
            x.move(1, 0);
            x.move(2, 0);
            foreseen("one in the last SLOT", x, q, last, 1, 0, last);
            x.seed(0, Draws.seedFor(0));
            foreseen("one in the first SLOT", x, q, last, 1, 0, 0);
            x.seed(0, Draws.seedFor(32768));
            foreseen("what is beyond q does not count", x, q, last, 1, 0, 0);
            x.move(1, 1);
            x.seed(1, Draws.seedFor(last));
            foreseen("two", x, q, q == 0 ? 0 : last - 1, q == 0 ? 0 : 2, q == 0 ? 1 : 0, q == 0 ? -1 : 0);
            x.move(2, 1);
            x.seed(2, Draws.seedFor(0));
            foreseen("two and one", x, q, q == 0 ? 0 : last - 1, q == 0 ? 0 : 1, 1, q == 0 ? -1 : last);
            x.seed(1, Draws.seedFor(0));
            foreseen("three together", x, q, last, 0, 1, -1);
            Check.same("nothing is drawn", x.seed(1, 5), Draws.seedFor(0));
            x.move(0, 0);
            x.move(1, 0);
            x.move(2, 0);
            foreseen("nobody", x, q, last + 1, 0, 0, -1);
            x.move(0, 1);
        }
        for (int state = 0; state < 7; state++) {
            TagRounds y = Check.inState(state);
            for (int session = 2; session < 4; session++) {
                for (int target = 0; target < 2; target++) {
                    boolean flips = session == 2 && state > 2 && state < 6;
                    int due = state < 6 && (flips ? target == 1 : target == 0) ? 1 : 0;
                    Check.same("STATE " + state + ", SESSION " + session + ", TARGET " + target, y.foresee(0, session, target, 0, 1), due);
                    Check.same("first one", y.foresee(0, session, target, 0, 3), due - 1);
                }
            }
            Check.same("STATE stays", y.tag(0, 2), state);
            y.select(0, 4, 0);
            Check.same("all, PICKED too", y.foresee(0, 2, 0, 0, 1), state == 6 ? 0 : 1);
        }
        TagRounds told = Check.with(1);
        told.select(0, 2, 5);
        told.query(0, 0, 2, 1, 0);
        told.ack(0, told.heard(0));
        Check.same("KNOWN and B: it would be A", told.foresee(0, 2, 0, 0, 1), 1);
        Check.same("KNOWN and B: it would not be B", told.foresee(0, 2, 1, 0, 1), 0);
        Check.same("so it is", told.query(0, 0, 2, 0, 0), 1);
        TagRounds off = Check.with(1);
        off.power(0, false);
        Check.same("OFF: nobody", off.foresee(0, 0, 0, 0, 0), 1);
        TagRounds end = Check.with(1);
        Check.until(end, 99999);
        Check.same("at the end of NOW", end.foresee(0, 0, 0, 0, 1), 1);
    }

    private static void promise26() {
        TagRounds x = Check.with(1);
        Check.sentence("FORESEEN: what 0 EMPTY, 1 SINGLE, 2 CLASHES, 3 the first SINGLE one (NONE). NoSuchElementException: another what; IllegalArgumentException: a number is none.");
        int[][] none = {{-1, 0, 0}, {4, 0, 0}, {0, -1, 0}, {0, 2, 0}, {0, 0, -1}, {0, 0, 16}, {Integer.MIN_VALUE, 0, 0}, {0, Integer.MAX_VALUE, 0}, {0, 0, 31}, {0, 0, 32}, {0, 0, Integer.MAX_VALUE}};
        for (int[] n : none) {
            for (int what = 0; what < 4; what++) {
                int w = what;
                Check.argument(x, "foresee", () -> x.foresee(0, n[0], n[1], n[2], w));
            }
            Check.element(x, "foresee, what 4", () -> x.foresee(0, n[0], n[1], n[2], 4));
            Check.element(x, "foresee, what -1", () -> x.foresee(0, n[0], n[1], n[2], -1));
            Check.index(x, "foresee, no READER", () -> x.foresee(4, n[0], n[1], n[2], 4));
        }
        Check.element(x, "what", () -> x.foresee(0, 0, 0, 0, Integer.MIN_VALUE));
        Check.element(x, "what", () -> x.foresee(0, 0, 0, 0, Integer.MAX_VALUE));
        Check.index(x, "READER -1", () -> x.foresee(-1, 0, 0, 0, 0));
    }

    private static void foreseen(String what, TagRounds x, int q, int... due) {
        for (int i = 0; i < 4; i++) {
            Check.same(what + ", q " + q + ", what " + i, x.foresee(0, 0, 0, q, i), due[i]);
        }
    }

    private static void wise() {
        Check.sentence("WISE: the least q with no CLASH; none.");
        TagRounds x = Check.with(2);
        for (int bit = 0; bit < 16; bit++) {
            x.seed(0, Draws.seedFor(0));
            x.seed(1, Draws.seedFor(1 << bit));
            Check.same("unlike in bit " + bit, x.wise(0, 2, 0), bit == 15 ? -1 : bit + 1);
            x.seed(1, Draws.seedFor(65536 - (1 << bit)));
            Check.same("unlike from bit " + bit + " on", x.wise(0, 2, 0), bit == 15 ? -1 : bit + 1);
        }
        x.seed(1, Draws.seedFor(0));
        Check.same("alike", x.wise(0, 2, 0), -1);
        Check.same("nobody is B", x.wise(0, 2, 1), 0);
        x.move(1, 0);
        Check.same("just one", x.wise(0, 2, 0), 0);
        x.power(0, false);
        Check.same("OFF", x.wise(0, 2, 0), 0);
        Check.same("no TAGS", new TagRounds().wise(3, 3, 1), 0);
        Check.sentence("WISE; NONE. IllegalArgumentException likewise.");
        int[][] none = {{-1, 0}, {4, 0}, {0, -1}, {0, 2}, {Integer.MAX_VALUE, 0}, {3, Integer.MIN_VALUE}};
        for (int[] n : none) {
            Check.argument(x, "wise", () -> x.wise(0, n[0], n[1]));
            Check.index(x, "wise, no READER", () -> x.wise(4, n[0], n[1]));
            Check.index(x, "wise, no READER", () -> x.wise(-1, n[0], n[1]));
        }
    }

    private static void chances() {
        Check.sentence("in how many ticks of FRAME (0 to FRAME less 1; with FRAME 0 one tick) the TAG would HEAR it, READERS being ON, OFF as now");
        TagRounds x = new TagRounds();
        x.add(3, 1, 0, 0);
        x.power(0, true);
        x.power(1, true);
        x.slice(0, 0, 999);
        int[][] known = {{0, 0, 999, 1, 1}, {1, 0, 999, 0, 0}, {1, 1, 999, 1, 0}, {1, 0, 0, 1, 0}, {10, 9, 5, 9, 0}, {10, 10, 5, 10, 0}, {10, 0, 10, 0, 0},
            {10, 0, 9, 1, 0}, {999, 998, 1, 998, 0}, {999, 0, 999, 0, 0}, {999, 999, 999, 999, 0}};
        for (int[] k : known) {
            x.time(0, k[0]);
            x.slice(1, k[1], k[2]);
            Check.same("FRAME " + k[0] + ", the other from " + k[1] + " on " + k[2], x.chances(0, 0), k[3]);
            Check.same("the other READER", x.chances(1, 0), k[4]);
            Check.same("not reached", x.chances(2, 0), 0);
        }
        x.time(0, 10);
        x.slice(1, 0, 10);
        x.rest(7);
        x.power(1, false);
        Check.same("the other OFF now", x.chances(0, 0), 10);
        Check.same("OFF now", x.chances(1, 0), 0);
        x.move(0, 0);
        Check.same("not reached now", x.chances(0, 0), 0);
        TagRounds all = new TagRounds();
        all.add(15, 1, 0, 0);
        all.time(0, 6);
        for (int r = 0; r < 4; r++) {
            all.add(1 << r, 1, 0, 0);
            all.power(r, true);
            all.slice(r, 0, 5);
        }
        for (int r = 0; r < 4; r++) {
            Check.same("all are BUSY but for one tick", all.chances(r, 0), 1);
            Check.same("all are BUSY, no other reaches it", all.chances(r, 1 + r), 6);
        }
        Check.sentence("CHANCES of a READER and a TAG");
        for (int n : new int[] {-1, 4, Integer.MIN_VALUE, Integer.MAX_VALUE}) {
            Check.index(x, "READER " + n, () -> x.chances(n, 0));
            Check.index(x, "TAG " + n, () -> x.chances(0, n));
        }
        Check.index(x, "TAG 1", () -> x.chances(0, 1));
        Check.sentence("DARK: TAGS with POWER without a CHANCE of any READER.");
        TagRounds y = new TagRounds();
        y.add(3, 1, 0, 0);
        y.add(1, 1, 0, 0);
        y.add(0, 1, 0, 0);
        y.add(2, 1, 0, 0);
        Check.same("none with POWER", y.count(11), 0);
        y.power(0, true);
        y.power(1, true);
        Check.same("FRAME 0", y.count(11), 0);
        y.time(0, 4);
        y.slice(0, 0, 4);
        y.slice(1, 0, 4);
        Check.same("both BUSY in all ticks", y.count(11), 1);
        y.slice(1, 0, 3);
        Check.same("one tick of one", y.count(11), 0);
        y.slice(1, 1, 3);
        Check.same("the first tick of one", y.count(11), 0);
        y.slice(1, 1, 2);
        y.slice(0, 0, 1);
        Check.same("the last tick of both", y.count(11), 0);
        y.slice(1, 0, 4);
        y.slice(0, 0, 4);
        y.power(1, false);
        Check.same("the other OFF", y.count(11), 0);
    }

    private static void coloured(String what, int[] reaches, int many, int... due) {
        TagRounds x = new TagRounds();
        for (int reach : reaches) {
            x.add(reach, 1, 0, 0);
        }
        Check.same(what + ": colours", x.count(9), many);
        for (int r = 0; r < 4; r++) {
            Check.same(what + ": colour of " + r, x.reader(r, 13), due[r]);
        }
    }

    private static void plan() {
        Check.sentence("of all such with the fewest colours the one that is the least, READER by READER");
        coloured("no TAGS", new int[] {}, 1, 0, 0, 0, 0);
        coloured("no two", new int[] {0, 1, 2, 4, 8}, 1, 0, 0, 0, 0);
        coloured("two", new int[] {3}, 2, 0, 1, 0, 0);
        coloured("the last two", new int[] {12}, 2, 0, 0, 0, 1);
        coloured("three", new int[] {11}, 3, 0, 1, 0, 2);
        coloured("all", new int[] {15}, 4, 0, 1, 2, 3);
        coloured("all, by pairs", new int[] {3, 5, 9, 6, 10, 12}, 4, 0, 1, 2, 3);
        coloured("a ring", new int[] {3, 6, 12, 9}, 2, 0, 1, 0, 1);
        coloured("the fewest, though not the least in turn", new int[] {5, 12, 10}, 2, 0, 1, 1, 0);
        coloured("a star", new int[] {9, 10, 12}, 2, 0, 0, 0, 1);
        coloured("one aside", new int[] {14}, 3, 0, 0, 1, 2);
        TagRounds off = new TagRounds();
        off.add(3, 1, 0, 0);
        Check.same("colour of 1, asked first", off.reader(1, 13), 1);
        off.move(0, 5);
        Check.same("colour of 1, moved", off.reader(1, 13), 0);
        off.move(0, 3);
        Check.same("OFF or ON is no matter", off.count(9), 2);
        off.power(0, true);
        Check.same("OFF or ON is no matter", off.count(9), 2);
        off.move(0, 1);
        Check.same("moved", off.count(9), 1);
    }

    private static void clear() {
        Check.sentence("the first tick from NOW on at which no other READER is BUSY that reaches a TAG that it reaches, as they are now; none within FRAME ticks (NOW, if FRAME is 0)");
        TagRounds x = new TagRounds();
        x.add(3, 1, 0, 0);
        x.power(1, true);
        x.slice(1, 0, 999);
        Check.same("FRAME 0", x.reader(0, 12), 0);
        x.rest(23);
        Check.same("FRAME 0", x.reader(0, 12), 23);
        x.time(0, 10);
        Check.same("none", x.reader(0, 12), -1);
        // NOW is 23, place 3 of the FRAME
        int[][] known = {{0, 3, 23}, {0, 4, 24}, {3, 1, 24}, {3, 7, 30}, {2, 8, 30}, {1, 9, 30}, {0, 9, 29}, {0, 10, -1}, {0, 0, 23}, {4, 9, 23}};
        for (int[] k : known) {
            x.slice(1, k[0], k[1]);
            Check.same("the other from " + k[0] + " on " + k[1], x.reader(0, 12), k[2]);
        }
        x.slice(1, 3, 9);
        x.slice(2, 0, 3);
        x.power(2, true);
        Check.same("another that reaches none of its TAGS", x.reader(0, 12), 30);
        x.add(5, 1, 0, 0);
        Check.same("another that reaches one of them", x.reader(0, 12), -1);
        x.slice(2, 0, 2);
        Check.same("the last tick within FRAME", x.reader(0, 12), 32);
        x.slice(0, 0, 10);
        x.power(0, true);
        Check.same("BUSY itself is no matter", x.reader(0, 12), 32);
        Check.same("for one without a TAG", x.reader(3, 12), 23);
        x.slice(0, 0, 0);
        Check.same("BUSY itself is no matter to another", x.reader(1, 12), 23);
        x.slice(1, 3, 1);
        Check.same("BUSY itself just now", x.reader(1, 12), 23);
        Check.same("but for its neighbour", x.reader(0, 12), 24);
        x.power(1, false);
        x.power(2, false);
        Check.same("the others OFF", x.reader(0, 12), 23);
        TagRounds one = new TagRounds();
        one.add(3, 1, 0, 0);
        one.power(1, true);
        one.time(0, 1);
        one.slice(1, 0, 1);
        Check.same("FRAME 1: none", one.reader(0, 12), -1);
        one.slice(1, 1, 1);
        Check.same("FRAME 1", one.reader(0, 12), 0);
        one.time(0, 999);
        one.slice(1, 0, 998);
        Check.same("the longest FRAME: the last tick", one.reader(0, 12), 998);
        one.slice(1, 0, 999);
        Check.same("the longest FRAME: none", one.reader(0, 12), -1);
    }

    private static void rate() {
        Check.sentence("RATE of n (1 to 99) and q: 1000000 times n by L (2 to the power of q), rounded down; then n - 1 times: that times L - 1, by L, rounded down.");
        TagRounds x = new TagRounds();
        int[][] known = {{1, 0, 1000000}, {2, 0, 0}, {99, 0, 0}, {1, 15, 30}, {2, 15, 60}, {99, 15, 2923}, {3, 1, 375000}, {5, 2, 395507}, {7, 3, 392693},
            {10, 3, 375820}, {99, 1, 0}, {99, 6, 330491}, {99, 7, 358567}, {50, 5, 329745}};
        for (int[] k : known) {
            Check.same("RATE of " + k[0] + " and " + k[1], x.rate(k[0], k[1]), k[2]);
        }
        Check.sentence("BEST of n: the q with the greatest RATE, of several the least.");
        int[] from = {1, 2, 3, 6, 12, 23, 45, 89, 100};
        for (int q = 0; q < 8; q++) {
            for (int n = from[q]; n < from[q + 1]; n++) {
                Check.same("BEST of " + n, x.rate(n, -1), q);
            }
        }
        Check.sentence("RATE; BEST (q NONE). IllegalArgumentException: n or q is none.");
        for (int n : new int[] {0, 100, -1, Integer.MIN_VALUE, Integer.MAX_VALUE}) {
            for (int q : new int[] {-1, 0, 15}) {
                Check.argument(x, "RATE of " + n + ", " + q, () -> x.rate(n, q));
            }
        }
        for (int q : new int[] {-2, 16, 63, 64, Integer.MIN_VALUE, Integer.MAX_VALUE}) {
            Check.argument(x, "RATE of 1, " + q, () -> x.rate(1, q));
            Check.argument(x, "RATE of 99, " + q, () -> x.rate(99, q));
        }
    }

    private static void guess() {
        Check.sentence("GUESS: of the latest ROUND of a READER 239 times CLASHES and 100 times SINGLES, by 100, rounded down.");
        TagRounds x = Check.with(2);
        x.steer(0, 0, 0);
        x.steer(0, 1, 1);
        int[] due = {2, 4, 7, 9, 11};
        for (int clashes = 1; clashes <= 5; clashes++) {
            x.seed(0, 1);
            x.seed(1, 1);
            x.round(0, 0, 0, 0, clashes);
            Check.same("CLASHES", x.reader(0, 7), clashes);
            Check.same("GUESS of so many", x.reader(0, 9), due[clashes - 1]);
            x.steer(0, 0, 0);
        }
        x.move(1, 0);
        x.round(0, 0, 0, 0, 1);
        Check.same("GUESS of one SINGLE", x.reader(0, 9), 1);
        x.move(0, 0);
        x.round(0, 0, 0, 0, 1);
        Check.same("GUESS of the latest ROUND alone", x.reader(0, 9), 0);
        // behind 41 CLASHES of 6 ticks each READER 1 is BUSY, and TAG 1 HEARS nothing more
        TagRounds both = Check.with(2);
        both.move(1, 3);
        both.power(1, true);
        both.time(0, 999);
        both.slice(1, 41 * 6, 99);
        both.seed(1, 1);
        both.steer(0, 0, 0);
        both.steer(0, 1, 1);
        both.round(0, 0, 0, 0, 400);
        rounded("CLASHES and a SINGLE", both, 42, 0, 1, 41, 1, 41);
        Check.same("GUESS of 97.99 and 1", both.reader(0, 9), 98);
        TagRounds most = Check.with(2);
        most.seed(1, 1);
        most.steer(0, 0, 0);
        most.steer(0, 1, 1);
        most.round(0, 0, 0, 0, 49);
        Check.same("GUESS of 49 CLASHES", most.reader(0, 9), 117);
    }

    private static void promise29() {
        Check.sentence("8 READ of its latest ROUND (0 ahead of any)");
        TagRounds x = Check.with(1);
        for (int what = 4; what <= 11; what++) {
            Check.same("ahead of any, what " + what, x.reader(0, what), 0);
        }
        x.steer(0, 0, 0);
        x.round(0, 0, 2, 0, 9);
        Check.same("READ", x.reader(0, 8), 1);
        x.round(0, 0, 2, 0, 9);
        Check.same("of the latest", x.reader(0, 8), 0);
        Check.same("READ ever", x.reader(0, 11), 1);
        Check.same("of another READER", x.reader(1, 8) + x.reader(1, 11) + x.reader(1, 4), 0);
        Check.sentence("10 SINGLE ones by SLOTS in hundredths, rounded down (0)");
        Check.same("no SLOTS", x.reader(3, 10), 0);
        // AIM, most SLOTS, the SLOT of the only TAG
        int[][] known = {{100, 2, 0, 50}, {200, 1, 3, 0}, {200, 3, 1, 33}, {300, 7, 3, 14}, {300, 6, 5, 16}, {0, 1, 0, 100}};
        for (int[] k : known) {
            TagRounds y = Check.with(1);
            y.steer(0, 1, 1);
            y.steer(0, 0, k[0]);
            y.seed(0, Draws.seedFor(k[2]));
            y.round(0, 0, 0, 0, k[1]);
            Check.same("SLOTS", y.reader(0, 4), k[1]);
            Check.same("hundredths of " + y.reader(0, 6) + " by " + k[1], y.reader(0, 10), k[3]);
        }
        Check.sentence("13 its colour by PLAN, 14 TAGS that it reaches, 15 that HEAR it now, as bits. NoSuchElementException: another what.");
        TagRounds full = new TagRounds();
        for (int i = 0; i < 16; i++) {
            full.add(i < 15 ? 1 : 8, 1, 0, 0);
        }
        full.power(0, true);
        full.power(3, true);
        Check.same("reached", full.reader(0, 14), 32767);
        Check.same("reached", full.reader(3, 14), 32768);
        Check.same("reached", full.reader(1, 14), 0);
        Check.same("HEAR it", full.reader(0, 15), 32767);
        Check.same("HEAR it", full.reader(3, 15), 32768);
        for (int what : new int[] {-1, 16, Integer.MIN_VALUE, Integer.MAX_VALUE}) {
            Check.element(full, "what " + what, () -> full.reader(0, what));
            Check.index(full, "what " + what + ", no READER", () -> full.reader(4, what));
        }
        Check.index(full, "READER -1", () -> full.reader(-1, 0));
    }

    private static void promise30() {
        Check.sentence("3 SLOT (NONE, if it does not WAIT or REPLY), 4 NUMBER (NONE, if it does not REPLY, is not KNOWN), 5 HANDLE, 6 COVER (NONE), 7 its SESSION, 8 its Q (NONE of both, if it is READY, KILLED)");
        for (int state = 0; state < 7; state++) {
            TagRounds x = Check.inState(state);
            Check.same("SLOT in " + state, x.tag(0, 3), state == 1 ? 2 : state == 2 ? 0 : -1);
            Check.same("NUMBER in " + state, x.tag(0, 4) >= 0, state == 2 || state == 3);
            Check.same("no NUMBER in " + state, x.tag(0, 4) == -1, state != 2 && state != 3);
            Check.same("HANDLE in " + state, x.tag(0, 5) == -1, state < 4);
            Check.same("COVER in " + state, x.tag(0, 6), -1);
            Check.same("SESSION in " + state, x.tag(0, 7), state == 0 || state == 6 ? -1 : 2);
            Check.same("Q in " + state, x.tag(0, 8), state == 0 || state == 6 ? -1 : state == 1 ? 2 : 0);
            Check.same("with POWER in " + state, x.tag(0, 14), -1);
            Check.same("POWER in " + state, x.tag(0, 1), 1);
            x.power(0, false);
            Check.same("no POWER in " + state, x.tag(0, 1), 0);
            for (int what = 3; what < 9; what++) {
                Check.same("without POWER, what " + what, x.tag(0, what), -1);
            }
        }
        Check.sentence("13 the READER with the most CHANCES for it, of several the least (NONE without a CHANCE), 14 how many ticks it has had no POWER (NONE with POWER)");
        TagRounds x = new TagRounds();
        x.rest(5);
        x.add(15, 1, 0, 0);
        Check.same("no POWER from when it was added", x.tag(0, 14), 0);
        x.rest(9);
        Check.same("no POWER", x.tag(0, 14), 9);
        Check.same("without a CHANCE", x.tag(0, 13), -1);
        for (int r = 3; r >= 0; r--) {
            x.power(r, true);
            Check.same("of several the least", x.tag(0, 13), r);
        }
        Check.same("with POWER", x.tag(0, 14), -1);
        x.time(0, 10);
        x.slice(2, 0, 1);
        Check.same("the one that is BUSY has the most", x.tag(0, 13), 2);
        x.slice(3, 4, 2);
        Check.same("the most", x.tag(0, 13), 3);
        x.slice(1, 7, 2);
        Check.same("of several the least", x.tag(0, 13), 1);
        for (int r = 0; r < 4; r++) {
            x.slice(r, 0, 10);
        }
        Check.same("without a CHANCE", x.tag(0, 13), -1);
        x.move(0, 0);
        Check.same("no POWER from now on", x.tag(0, 14), 0);
        x.rest(3);
        x.power(0, false);
        Check.same("and on", x.tag(0, 14), 3);
        x.move(0, 2);
        x.move(0, 0);
        Check.same("anew", x.tag(0, 14), 0);
        Check.until(x, 99999);
        Check.same("to the end of NOW", x.tag(0, 14), 99999 - 17);
        Check.sentence("11 how often it was READ, 12 1 if the next half is the lower one");
        TagRounds y = Check.inState(4);
        Check.same("never", y.tag(0, 11), 0);
        Check.same("the upper one", y.tag(0, 12), 0);
        y.pass(0, y.tag(0, 5), 0, true);
        Check.same("no half without a COVER", y.tag(0, 12), 0);
        Check.cover(y, y.tag(0, 5));
        y.pass(0, y.tag(0, 5), 0, true);
        Check.same("the lower one", y.tag(0, 12), 1);
        y.steer(0, 0, 0);
        for (int i = 0; i < 50; i++) {
            y.round(0, 0, 3, i % 2, 1);
        }
        Check.same("more often than the log tells", y.tag(0, 11), 50);
        Check.same("the upper one", y.tag(0, 12), 0);
        Check.sentence("Of a TAG what 0 REACH, 1 1 with POWER");
        for (int what : new int[] {-1, 15, Integer.MIN_VALUE, Integer.MAX_VALUE}) {
            Check.element(x, "what " + what, () -> x.tag(0, what));
            Check.index(x, "what " + what + ", no TAG", () -> x.tag(1, what));
        }
        Check.index(x, "TAG -1", () -> x.tag(-1, 0));
    }

    private static void promise35() {
        Check.sentence("Of the latest 40 that were READ the k-th, the latest first: READER (what 0), TAG (1), SESSION (2), NOW ahead of the ACK (3); NONE without. NoSuchElementException: another what.");
        TagRounds x = Check.with(1);
        x.move(0, 9);
        x.power(3, true);
        x.steer(0, 0, 0);
        x.steer(3, 0, 0);
        int[] ahead = new int[100];
        for (int n = 0; n < 100; n++) {
            for (int k : new int[] {-1, n, 40, 41, Integer.MIN_VALUE, Integer.MAX_VALUE}) {
                if (k < 0 || k >= Math.min(n, 40)) {
                    Check.same("without " + k + " of " + n, x.log(k, 0) + x.log(k, 1) + x.log(k, 2) + x.log(k, 3), -4);
                }
            }
            for (int k = 0; k < Math.min(n, 40); k++) {
                int i = n - 1 - k;
                Check.same("READER of " + k, x.log(k, 0), i % 3 == 0 ? 3 : 0);
                Check.same("TAG of " + k, x.log(k, 1), 0);
                Check.same("SESSION of " + k, x.log(k, 2), 2 + i / 2 % 2);
                Check.same("NOW of " + k, x.log(k, 3), ahead[i]);
            }
            int reader = n % 3 == 0 ? 3 : 0;
            int session = 2 + n / 2 % 2;
            ahead[n] = x.count(1) + 7;
            Check.same("READ", x.round(reader, 0, session, x.flag(0, session), 1), 1);
        }
        TagRounds full = Check.with(16);
        for (int i = 0; i < 16; i++) {
            full.move(i, 0);
        }
        full.steer(0, 0, 0);
        for (int i = 0; i < 16; i++) {
            full.move(15 - i, 1);
            full.round(0, 0, 0, 0, 1);
            full.move(15 - i, 0);
        }
        for (int k = 0; k < 16; k++) {
            Check.same("TAG of " + k, full.log(k, 1), k);
        }
        for (int what : new int[] {-1, 4, Integer.MIN_VALUE, Integer.MAX_VALUE}) {
            Check.element(x, "what " + what, () -> x.log(0, what));
            Check.element(x, "what " + what + " of none", () -> x.log(40, what));
            Check.element(x, "what " + what + " of none", () -> x.log(-1, what));
        }
        Check.element(new TagRounds(), "what 4 of an empty log", () -> new TagRounds().log(0, 4));
    }

    private static void promise38() {
        Check.sentence("8 READ ever, 9 colours of PLAN, 10 TAGS that MATCH, 11 DARK ones, as bits. NONE for another what.");
        TagRounds x = new TagRounds();
        for (int what : new int[] {-1, 12, 13, Integer.MIN_VALUE, Integer.MAX_VALUE}) {
            Check.same("what " + what, x.count(what), -1);
        }
        for (int i = 0; i < 16; i++) {
            x.add(i == 15 ? 12 : 3, 1, i << 16, 0);
            Check.same("all MATCH with LONG 0", x.count(10), (2 << i) - 1);
        }
        for (int r = 0; r < 4; r++) {
            x.power(r, true);
        }
        Check.same("READERS that are ON", x.count(5), 15);
        Check.same("with POWER", x.count(6), 65535);
        x.time(0, 1);
        for (int r = 0; r < 4; r++) {
            x.slice(r, 0, 1);
        }
        Check.same("all are DARK", x.count(11), 65535);
        x.power(2, false);
        Check.same("but the last", x.count(11), 32767);
        x.mask(1, 47, 1, 1);
        Check.same("MATCH", x.count(10), 0xaaaa);
        Check.sentence("6 TAGS with POWER, as bits, 7 KILLED ones, as bits");
        TagRounds last = Check.with(16);
        for (int i = 0; i < 15; i++) {
            last.move(i, 0);
        }
        last.store(15, 0, 0, 1);
        last.query(0, 0, 0, 0, 0);
        last.ack(0, last.heard(0));
        last.renew(0, last.tag(15, 4));
        int handle = last.heard(0);
        for (int i = 0; i < 2; i++) {
            last.renew(0, handle);
            last.pass(0, handle, (1 - i) ^ last.tag(15, 6), true);
        }
        Check.same("the last is KILLED", last.count(7), 32768);
        Check.same("the last has POWER", last.count(6), 32768);
        TagRounds killed = Check.inState(6);
        killed.add(1, 1, 0, 0);
        Check.same("KILLED", killed.count(7), 1);
        Check.same("with POWER", killed.count(6), 3);
        killed.power(0, false);
        Check.same("KILLED", killed.count(7), 1);
        Check.same("with POWER", killed.count(6), 0);
    }

    public static void main(String[] args) {
        steer();
        aims();
        left();
        most();
        pushes();
        goesOn();
        leftIsNone();
        begins();
        over();
        promise24();
        sent();
        checks();
        promise25();
        foresee();
        promise26();
        wise();
        chances();
        plan();
        clear();
        rate();
        guess();
        promise29();
        promise30();
        promise35();
        promise38();
        Check.end("EdgeSteeringTest");
    }
}
