/** Promises 23, 24 and 26 to 29: AIM, PUSH, ROUNDS, what is FORESEEN, CHANCES, what is told of READERS. */
public final class SteeringTest {
    private static void promise23() {
        TagRounds x = new TagRounds();
        Check.same("23 AIM", x.steer(0, 0, 1500), 400);
        Check.same("23 AIM", x.steer(0, 0, 0), 1500);
        Check.same("23 AIM", x.reader(0, 2), 0);
        Check.same("23 PUSH", x.steer(3, 1, 100), 25);
        Check.same("23 PUSH", x.steer(3, 1, 1), 100);
        Check.same("23 PUSH", x.reader(3, 3), 1);
        Check.same("23 of its own", x.reader(1, 2), 400);
        Check.index(x, "23 reader", () -> x.steer(4, 2, -1));
        Check.index(x, "23 reader", () -> x.steer(-1, 2, -1));
        Check.element(x, "23 what", () -> x.steer(0, 2, -1));
        Check.element(x, "23 what", () -> x.steer(0, -1, -1));
        Check.argument(x, "23 AIM", () -> x.steer(0, 0, 1501));
        Check.argument(x, "23 AIM", () -> x.steer(0, 0, -1));
        Check.argument(x, "23 PUSH", () -> x.steer(0, 1, 101));
        Check.argument(x, "23 PUSH", () -> x.steer(0, 1, 0));
    }

    // SLOTS, EMPTY, SINGLE, CLASHES, READ, AIM, NOW behind a ROUND of READER 0.
    private static void rounded(String what, TagRounds x, int[] due) {
        String[] names = {"SLOTS", "EMPTY", "SINGLE", "CLASHES", "READ"};
        for (int i = 0; i < 5; i++) {
            Check.same(what + " " + names[i], x.reader(0, 4 + i), due[i]);
        }
        Check.same(what + " AIM", x.reader(0, 2), due[5]);
        Check.same(what + " NOW", x.count(1), due[6]);
    }

    private static void promise24() {
        TagRounds x = Check.with(0);
        Check.same("24 nobody", x.round(0, 0, 0, 0, 400), 0);
        rounded("24 nobody", x, new int[] {13, 13, 0, 0, 0, 75, 34});
        Check.text("24 a NEXT at the end", Check.sent(x), "0000");
        Check.same("24 most", x.round(0, 0, 3, 1, 1), 0);
        rounded("24 most", x, new int[] {1, 1, 0, 0, 0, 50, 41});
        Check.text("24 a NEXT at the end", Check.sent(x), "0011");
        x.round(0, 0, 0, 0, 400);
        rounded("24 not below 0", x, new int[] {2, 2, 0, 0, 0, 0, 41 + 5 + 3 + 2});
        TagRounds y = Check.with(2);
        y.seed(1, 1);
        y.steer(0, 0, 0);
        y.steer(0, 1, 1);
        Check.same("24 alike for ever", y.round(0, 0, 1, 0, 3), 0);
        rounded("24 alike for ever", y, new int[] {3, 0, 0, 3, 0, 3, 20});
        Check.same("24 QUERY anew of the SESSION", y.tag(0, 7), 1);
        y.select(0, 1, 5);
        y.select(0, 4, 0);
        y.round(0, 2, 1, 1, 3);
        Check.same("24 QUERY anew of PICKED ones, B", y.reader(0, 7), 3);
        y.round(0, 1, 1, 1, 3);
        Check.same("24 QUERY of others", y.reader(0, 5), 1);
        promise24Anew();
        promise24Slots();
        promise24Time();
        int[][] none = {{-1, 0, 0, 1}, {3, 0, 0, 1}, {0, -1, 0, 1}, {0, 4, 0, 1}, {0, 0, 2, 1}, {0, 0, -1, 1}, {0, 0, 0, 0}, {0, 0, 0, 401}};
        for (int[] n : none) {
            Check.argument(x, "24 round", () -> x.round(0, n[0], n[1], n[2], n[3]));
            Check.argument(x, "24 round, OFF", () -> x.round(1, n[0], n[1], n[2], n[3]));
            Check.index(x, "24 round, no reader", () -> x.round(-1, n[0], n[1], n[2], n[3]));
        }
        Check.state(x, "24 OFF", () -> x.round(1, 0, 0, 0, 1));
    }

    // Two TAGS with one SEED clash in a SLOT of two each time, and are asked anew as long as they do.
    private static void promise24Anew() {
        TagRounds x = Check.with(2);
        x.seed(1, 1);
        x.steer(0, 0, 100);
        x.steer(0, 1, 1);
        x.round(0, 0, 2, 0, 40);
        Draws d = new Draws(1);
        int now = 0;
        for (int i = 0; i < 20; i++) {
            boolean inTheFirst = d.next() % 2 == 0;
            d.next();
            now += inTheFirst ? 6 + 2 : 5 + 3;
        }
        rounded("24 anew", x, new int[] {40, 20, 0, 20, 0, 100, now + 2});
        int[][] aims = {{49, 0}, {50, 1}, {149, 1}, {150, 2}, {1449, 14}, {1450, 15}};
        for (int[] a : aims) {
            TagRounds y = Check.with(1);
            y.steer(0, 0, a[0]);
            y.seed(0, seedWithSlot((1 << a[1]) - 1, 15));
            y.round(0, 0, 2, 0, 1);
            Check.same("24 q of AIM " + a[0], y.tag(0, 8) == a[1] || a[1] == 0 && y.tag(0, 2) == 0, true);
        }
    }

    private static void promise24Slots() {
        TagRounds x = Check.with(1);
        x.steer(0, 0, 0);
        Check.same("24 one", x.round(0, 0, 2, 0, 9), 1);
        rounded("24 one", x, new int[] {1, 0, 1, 0, 1, 0, 7 + 7 + 2});
        Check.same("24 flipped by the NEXT", x.flag(0, 2), 1);
        Check.same("24 READ ever", x.reader(0, 11), 1);
        Check.same("24 READ ever", x.count(8), 1);
        Check.same("24 of the TAG", x.tag(0, 11), 1);
        Check.same("24 as B", x.round(0, 1, 2, 1, 9), 1);
        Check.same("24 none PICKED", x.round(0, 2, 2, 0, 9), 0);
        Check.same("24 READ ever", x.reader(0, 11), 2);
        Check.same("24 READ of the latest", x.reader(0, 8), 0);
        Check.same("24 SINGLE of the latest", x.reader(0, 6), 0);
        TagRounds y = Check.with(1);
        y.move(0, 3);
        y.power(1, true);
        y.time(0, 100);
        y.slice(1, 7, 1);
        y.steer(0, 0, 0);
        Check.same("24 the ACK is not HEARD", y.round(0, 0, 0, 0, 1), 0);
        rounded("24 the ACK is not HEARD", y, new int[] {1, 0, 1, 0, 0, 0, 7 + 3 + 2});
        Check.same("24 not READ", y.log(0, 0), -1);
        // AIM 1500 stays by a clash; the first DRAW of both seeds has its lowest 15 bits 0
        TagRounds z = Check.with(2);
        int seed = seedWithSlot(0, 15);
        z.seed(0, seed);
        z.seed(1, seed);
        z.steer(0, 0, 1450);
        z.steer(0, 1, 100);
        z.round(0, 0, 0, 0, 1);
        rounded("24 not above 1500", z, new int[] {1, 0, 0, 1, 0, 1500, 6 + 2});
    }

    // A seed whose next DRAW has these lowest q bits.
    private static int seedWithSlot(int slot, int q) {
        int seed = 1;
        while (new Draws(seed).next() % (1 << q) != slot) {
            seed++;
        }
        return seed;
    }

    private static TagRounds at(int now, int tags) {
        TagRounds x = Check.with(tags);
        x.steer(0, 0, 0);
        for (int i = 0; i < 10; i++) {
            x.rest(9999);
        }
        if (now > 99990) {
            x.rest(now - 99990);
        }
        Check.same("24 now", x.count(1), now);
        return x;
    }

    private static void promise24Time() {
        TagRounds x = at(99992, 1);
        Check.same("24 no time for the ACK", x.round(0, 0, 0, 0, 9), 0);
        rounded("24 no time for the ACK", x, new int[] {1, 0, 1, 0, 0, 0, 99999});
        Check.same("24 the QUERY was the latest", x.sent(-1), 18);
        Check.same("24 the QUERY was the latest", x.sent(0), 1);
        TagRounds y = at(99990, 1);
        Check.same("24 no time for the NEXT", y.round(0, 0, 0, 0, 9), 1);
        rounded("24 no time for the NEXT", y, new int[] {1, 0, 1, 0, 1, 0, 99999});
        Check.same("24 the ACK was the latest", y.sent(0), 0);
        Check.same("24 no flip", y.tag(0, 2), 3);
        TagRounds z = at(99994, 0);
        z.round(0, 0, 0, 0, 9);
        rounded("24 no time at all", z, new int[] {1, 1, 0, 0, 0, 0, 99999});
        Check.state(z, "24 at the end", () -> z.round(0, 0, 0, 0, 1));
    }

    private static void promise26() {
        TagRounds x = Check.with(3);
        int[] slots = {5, 5, 2};
        for (int i = 0; i < 3; i++) {
            x.seed(i, seedWithSlot(slots[i], 3));
        }
        Check.same("26 EMPTY", x.foresee(0, 2, 0, 3, 0), 6);
        Check.same("26 SINGLE", x.foresee(0, 2, 0, 3, 1), 1);
        Check.same("26 CLASHES", x.foresee(0, 2, 0, 3, 2), 1);
        Check.same("26 the first", x.foresee(0, 2, 0, 3, 3), 2);
        Check.same("26 no B", x.foresee(0, 2, 1, 3, 0), 8);
        Check.same("26 no B", x.foresee(0, 2, 1, 3, 3), -1);
        Check.same("26 q 15", x.foresee(0, 2, 1, 15, 0), 32768);
        Check.same("26 OFF", x.foresee(1, 2, 0, 3, 0), 8);
        int seed = x.seed(0, 0);
        x.seed(0, seed);
        Check.same("26 nothing is drawn", seed, seedWithSlot(5, 3));
        x.move(1, 2);
        Check.same("26 two now", x.foresee(0, 2, 0, 3, 1), 2);
        Check.same("26 as it comes", x.query(0, 0, 2, 0, 3), 0);
        Check.same("26 SLOT", x.tag(2, 3), 2);
        TagRounds y = Check.with(1);
        Check.open(y, 2);
        Check.same("26 it would flip", y.foresee(0, 2, 0, 0, 1), 0);
        Check.same("26 it would flip", y.foresee(0, 2, 1, 0, 1), 1);
        Check.same("26 not of another SESSION", y.foresee(0, 3, 0, 0, 1), 1);
        y.next(0, 2);
        Check.open(y, 2);
        Check.same("26 it would flip back", y.foresee(0, 2, 0, 0, 1), 1);
        Check.same("26 it would flip back", y.foresee(0, 2, 1, 0, 1), 0);
        Check.index(x, "26 reader", () -> x.foresee(4, 4, 2, 16, 4));
        Check.element(x, "26 what", () -> x.foresee(0, 4, 2, 16, 4));
        Check.element(x, "26 what", () -> x.foresee(0, 0, 0, 0, -1));
        int[][] none = {{-1, 0, 0}, {4, 0, 0}, {0, -1, 0}, {0, 2, 0}, {0, 0, -1}, {0, 0, 16}};
        for (int[] n : none) {
            Check.argument(x, "26 foresee", () -> x.foresee(0, n[0], n[1], n[2], 3));
        }
    }

    private static void promise27() {
        TagRounds x = Check.with(0);
        Check.same("27 nobody", x.wise(0, 0, 0), 0);
        x.add(1, 1, 0, 0);
        Check.same("27 one", x.wise(0, 0, 0), 0);
        x.add(1, 1, 0, 0);
        x.seed(0, seedWithSlot(0b0101, 4));
        x.seed(1, seedWithSlot(0b1101, 4));
        Check.same("27 unlike from the fourth bit on", x.wise(0, 0, 0), 4);
        Check.same("27 none of B", x.wise(0, 0, 1), 0);
        x.seed(1, seedWithSlot(0b0101 | 1 << 14, 15));
        x.seed(0, seedWithSlot(0b0101, 15));
        Check.same("27 unlike in the last bit", x.wise(0, 0, 0), 15);
        x.seed(0, seedWithSlot(0b0101, 4));
        x.seed(1, seedWithSlot(0b0101, 4));
        Check.same("27 none", x.wise(0, 0, 0), -1);
        Check.same("27 OFF", x.wise(2, 0, 0), 0);
        Check.index(x, "27 reader", () -> x.wise(-1, 4, 2));
        Check.argument(x, "27 session", () -> x.wise(0, 4, 0));
        Check.argument(x, "27 session", () -> x.wise(0, -1, 0));
        Check.argument(x, "27 target", () -> x.wise(0, 0, 2));
        Check.argument(x, "27 target", () -> x.wise(0, 0, -1));
    }

    private static void promise28() {
        TagRounds x = new TagRounds();
        x.add(3, 1, 0, 0);
        x.add(1, 1, 0, 0);
        Check.same("28 OFF", x.chances(0, 0), 0);
        x.power(0, true);
        Check.same("28 FRAME 0", x.chances(0, 0), 1);
        Check.same("28 OFF", x.chances(1, 0), 0);
        x.power(1, true);
        x.slice(0, 0, 4);
        x.slice(1, 2, 20);
        Check.same("28 FRAME 0", x.chances(0, 0), 1);
        x.time(0, 10);
        Check.same("28 but for 2 to 9", x.chances(0, 0), 2);
        Check.same("28 but for 0 to 3", x.chances(1, 0), 6);
        Check.same("28 the other does not reach it", x.chances(0, 1), 10);
        Check.same("28 not reached", x.chances(1, 1), 0);
        x.power(1, false);
        Check.same("28 the other is OFF", x.chances(0, 0), 10);
        x.time(0, 999);
        Check.same("28 the longest", x.chances(0, 0), 999);
        Check.index(x, "28 reader", () -> x.chances(4, 0));
        Check.index(x, "28 reader", () -> x.chances(-1, 0));
        Check.index(x, "28 tag", () -> x.chances(0, 2));
        Check.index(x, "28 tag", () -> x.chances(0, -1));
    }

    private static void promise29() {
        TagRounds x = Check.with(2);
        Check.same("29 ON", x.reader(0, 0), 1);
        Check.same("29 OFF", x.reader(1, 0), 0);
        x.seed(1, 1);
        x.steer(0, 0, 0);
        x.steer(0, 1, 1);
        x.round(0, 0, 0, 0, 7);
        Check.same("29 GUESS", x.reader(0, 9), 16);
        Check.same("29 in hundredths", x.reader(0, 10), 0);
        TagRounds loud = Check.with(2);
        loud.seed(1, 1);
        loud.steer(0, 0, 0);
        loud.steer(0, 1, 1);
        loud.round(0, 0, 0, 0, 49);
        Check.same("29 CLASHES", loud.reader(0, 7), 49);
        Check.same("29 GUESS", loud.reader(0, 9), 117);
        Check.same("29 another", x.reader(1, 9), 0);
        Check.same("29 another", x.reader(1, 10), 0);
        x.move(1, 0);
        x.round(0, 0, 0, 0, 2);
        Check.same("29 in hundredths", x.reader(0, 10), 100);
        Check.same("29 READ ever", x.reader(0, 11), 1);
        Check.same("29 TAGS that it reaches", x.reader(0, 14), 1);
        x.move(1, 9);
        Check.same("29 TAGS that it reaches", x.reader(3, 14), 2);
        Check.same("29 HEAR it", x.reader(0, 15), 3);
        Check.same("29 OFF", x.reader(3, 15), 0);
        Check.index(x, "29 reader", () -> x.reader(4, 16));
        Check.index(x, "29 reader", () -> x.reader(-1, 0));
        Check.element(x, "29 what", () -> x.reader(0, 16));
        Check.element(x, "29 what", () -> x.reader(0, -1));
        promise29Clear();
        promise29Plan();
    }

    private static void promise29Clear() {
        TagRounds x = new TagRounds();
        x.add(3, 1, 0, 0);
        x.add(4, 1, 0, 0);
        x.rest(17);
        Check.same("29 CLEAR with FRAME 0", x.reader(0, 12), 17);
        x.time(0, 10);
        x.slice(1, 5, 4);
        Check.same("29 CLEAR, OFF", x.reader(0, 12), 17);
        x.power(1, true);
        Check.same("29 CLEAR", x.reader(0, 12), 19);
        Check.same("29 CLEAR of itself", x.reader(1, 12), 17);
        Check.same("29 CLEAR of one without a TAG together", x.reader(2, 12), 17);
        x.slice(1, 0, 10);
        Check.same("29 no CLEAR", x.reader(0, 12), -1);
        x.slice(1, 0, 9);
        Check.same("29 CLEAR", x.reader(0, 12), 19);
        x.slice(1, 7, 9);
        Check.same("29 not round the end", x.reader(0, 12), 20);
        Check.same("29 HEAR it not", x.reader(0, 15), 0);
    }

    private static void coloured(int[] reaches, int[] due, int many) {
        TagRounds x = new TagRounds();
        for (int reach : reaches) {
            x.add(reach, 1, 0, 0);
        }
        for (int r = 0; r < 4; r++) {
            Check.same("29 colour of " + r, x.reader(r, 13), due[r]);
        }
        Check.same("38 colours", x.count(9), many);
    }

    private static void promise29Plan() {
        coloured(new int[] {}, new int[] {0, 0, 0, 0}, 1);
        coloured(new int[] {1, 2, 4, 8}, new int[] {0, 0, 0, 0}, 1);
        coloured(new int[] {15}, new int[] {0, 1, 2, 3}, 4);
        coloured(new int[] {7}, new int[] {0, 1, 2, 0}, 3);
        coloured(new int[] {14}, new int[] {0, 0, 1, 2}, 3);
        coloured(new int[] {12}, new int[] {0, 0, 0, 1}, 2);
        coloured(new int[] {9, 6}, new int[] {0, 0, 1, 1}, 2);
        coloured(new int[] {9, 12, 3}, new int[] {0, 1, 0, 1}, 2);
        // 0 - 2 - 3 - 1: the least colour for each in turn would take three
        coloured(new int[] {5, 12, 10}, new int[] {0, 1, 1, 0}, 2);
        coloured(new int[] {3, 6, 12, 9}, new int[] {0, 1, 0, 1}, 2);
        coloured(new int[] {3, 6, 5, 12}, new int[] {0, 1, 2, 0}, 3);
    }

    public static void main(String[] args) {
        promise23();
        promise24();
        promise26();
        promise27();
        promise28();
        promise29();
        Check.end("SteeringTest");
    }
}
