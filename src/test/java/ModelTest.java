import java.util.NoSuchElementException;

/** Long runs of calls on a TagRounds and on a Model side by side: each answer, and what is to be seen, must be the same. */
public final class ModelTest {
    private static long state;
    private static int calls;

    private static int pick(int bound) {
        state = state * 6364136223846793005L + 1442695040888963407L;
        return (int) ((state >>> 33) % bound);
    }

    private interface Call {
        long go();
    }

    // An exception is an answer too.
    private static long answer(Call c) {
        try {
            return c.go();
        } catch (RuntimeException e) {
            String by = e.getStackTrace()[0].getClassName();
            if (!by.startsWith("TagRounds") && !by.startsWith("Model")) {
                throw e;
            }
            return kindOf(e);
        }
    }

    private static long kindOf(RuntimeException e) {
        if (e.getClass() == IndexOutOfBoundsException.class) {
            return -1000001L;
        } else if (e.getClass() == IllegalArgumentException.class) {
            return -1000002L;
        } else if (e.getClass() == IllegalStateException.class) {
            return -1000003L;
        } else if (e.getClass() == NoSuchElementException.class) {
            return -1000004L;
        }
        throw e;
    }

    private static void same(int run, String what, long got, long due) {
        if (got != due) {
            throw new AssertionError("run " + run + ", call " + calls + ": " + what + " answered " + got + ", due is " + due);
        }
    }

    private static long b(boolean b) {
        return b ? 1 : 0;
    }

    private static void seen(int run, TagRounds x, Model m, boolean dear) {
        for (int i = -1; i <= 12; i++) {
            int k = i;
            if (dear || i != 11 && i != 9) {
                same(run, "count " + k, x.count(k), m.count(k));
            }
        }
        for (int r = 0; r < 4; r++) {
            for (int w = 0; w <= 15; w++) {
                if (dear || w != 12 && w != 13) {
                    same(run, "reader " + r + " " + w, x.reader(r, w), m.reader(r, w));
                }
            }
        }
        for (int t = 0; t < m.tags.size(); t++) {
            for (int w = 0; w <= 14; w++) {
                if (dear || w != 13) {
                    same(run, "tag " + t + " " + w, x.tag(t, w), m.tag(t, w));
                }
            }
            same(run, "seed " + t, seedOf(x, t), m.tags.get(t).seed);
            for (int f = 0; f < 5; f++) {
                same(run, "flag " + t + " " + f, x.flag(t, f), m.flag(t, f));
                same(run, "fades " + t + " " + f, x.fades(t, f), m.fades(t, f));
            }
            for (int a = 0; a < 4; a++) {
                same(run, "mode " + t + " " + a, x.mode(t, a), m.mode(t, a));
                for (int w = 0; w < m.tags.get(t).bank[a].length; w++) {
                    same(run, "word " + t + " " + a + " " + w, x.word(t, a, w), m.word(t, a, w));
                }
            }
        }
        for (int k = -1; k <= 8; k++) {
            same(run, "heard " + k, x.heard(k), m.heard(k));
        }
        for (int k = -1; k <= 80; k++) {
            same(run, "sent " + k, x.sent(k), m.sent(k));
        }
        for (int k = -1; k <= 41 && dear; k++) {
            for (int w = 0; w < 4; w++) {
                same(run, "log " + k + " " + w, x.log(k, w), m.log(k, w));
            }
        }
        for (int f = 0; f < 5 && dear; f++) {
            same(run, "left " + f, x.left(f, 0), m.left(f, 0));
            same(run, "left " + f, x.left(f, 1), m.left(f, 1));
        }
    }

    private static int seedOf(TagRounds x, int t) {
        int n = x.seed(t, 0);
        x.seed(t, n);
        return n;
    }

    private static int odd(int n) {
        int[] strange = {-1, 4, 5, 7, 8, 16, 32, 256, 400, 401, 1000, 1501, 10000, 65535, 65536, Integer.MAX_VALUE, Integer.MIN_VALUE};
        return pick(60) == 0 ? strange[pick(strange.length)] : n;
    }

    // A number or handle that some tag has, as a rule.
    private static int known(Model m, int what) {
        if (m.tags.isEmpty() || pick(12) == 0) {
            return pick(3) == 0 ? m.heard(0) : odd(pick(65536));
        }
        for (int tries = 0; tries < 40; tries++) {
            int n = m.tag(pick(m.tags.size()), what);
            if (n != Model.NONE) {
                return n;
            }
        }
        return m.heard(0);
    }

    private static int tagOf(Model m) {
        return odd(pick(Math.max(1, m.tags.size())));
    }

    private static void step(int run, TagRounds x, Model m, int reader, int session) {
        int r = odd(reader);
        int a = odd(pick(4));
        int b = odd(pick(4));
        int t = tagOf(m);
        int kind = pick(64);
        int s = odd(pick(8) == 0 ? pick(4) : session);
        if (kind < 3) {
            int reach = odd(pick(4) == 0 ? pick(16) : 1 << pick(3) | 1);
            int words = odd(1 + pick(4));
            int high = pick(3) == 0 ? 0x12340000 : pick(65536) * 65537;
            int low = pick(65536) * 65539;
            same(run, "add", answer(() -> x.add(reach, words, high, low)), answer(() -> m.add(reach, words, high, low)));
        } else if (kind < 5) {
            int reach = odd(pick(16));
            same(run, "move", answer(() -> x.move(t, reach)), answer(() -> m.move(t, reach)));
        } else if (kind < 8) {
            boolean on = pick(5) != 0;
            int any = odd(pick(4));
            same(run, "power", answer(() -> b(x.power(any, on))), answer(() -> b(m.power(any, on))));
        } else if (kind < 10) {
            int what = odd(pick(3));
            int n = odd(what == 0 ? pick(3) * pick(20) : 1 + pick(200));
            same(run, "time", answer(() -> x.time(what, n)), answer(() -> m.time(what, n)));
        } else if (kind < 12) {
            int from = odd(pick(20));
            int n = odd(pick(20));
            long got = answer(() -> {
                x.slice(r, from, n);
                return 0;
            });
            same(run, "slice", got, answer(() -> {
                m.slice(r, from, n);
                return 0;
            }));
        } else if (kind < 14) {
            int n = odd(1 + (pick(run % 5 == 0 ? 2 : 9) == 0 ? pick(9999) : pick(120)));
            same(run, "rest", answer(() -> x.rest(n)), answer(() -> m.rest(n)));
        } else if (kind < 15) {
            int n = pick(9) * pick(65536);
            same(run, "seed", answer(() -> x.seed(t, n)), answer(() -> m.seed(t, n)));
        } else if (kind < 17) {
            int word = odd(pick(6));
            int value = odd(pick(3));
            same(run, "store", answer(() -> x.store(t, a, word, value)), answer(() -> m.store(t, a, word, value)));
        } else {
            command(run, x, m, new int[] {r, s, a, b, kind});
        }
    }

    private static void command(int run, TagRounds x, Model m, int[] given) {
        int r = given[0];
        int s = given[1];
        int a = given[2];
        int b = given[3];
        int kind = given[4];
        int number = known(m, 4);
        int handle = known(m, 5);
        if (kind < 18) {
            int bit = odd(pick(3) == 0 ? pick(100) : 16);
            int length = odd(pick(20));
            int bits = pick(3) == 0 ? pick(4) : 0x1234 >> Math.max(0, 16 - length);
            long got = answer(() -> {
                x.mask(a, bit, length, bits);
                return 0;
            });
            same(run, "mask", got, answer(() -> {
                m.mask(a, bit, length, bits);
                return 0;
            }));
        } else if (kind < 21) {
            int flag = odd(pick(5));
            int action = odd(pick(8));
            same(run, "select", answer(() -> x.select(r, flag, action)), answer(() -> m.select(r, flag, action)));
        } else if (kind < 27) {
            int which = odd(pick(4) == 0 ? pick(3) : 0);
            int target = odd(pick(2));
            int q = odd(pick(6) == 0 ? pick(16) : pick(3));
            same(run, "query", answer(() -> x.query(r, which, s, target, q)), answer(() -> m.query(r, which, s, target, q)));
        } else if (kind < 29) {
            int up = odd(pick(3) - 1);
            same(run, "adjust", answer(() -> x.adjust(r, s, up)), answer(() -> m.adjust(r, s, up)));
        } else if (kind < 32) {
            same(run, "next", answer(() -> x.next(r, s)), answer(() -> m.next(r, s)));
        } else if (kind < 36) {
            int n = pick(4) == 0 ? handle : number;
            same(run, "ack", answer(() -> x.ack(r, n)), answer(() -> m.ack(r, n)));
        } else if (kind < 37) {
            same(run, "nak", answer(() -> x.nak(r)), answer(() -> m.nak(r)));
        } else if (kind < 45) {
            int n = m.tags.stream().anyMatch(t -> t.state == 3) && pick(4) != 0 ? number : handle;
            same(run, "renew", answer(() -> x.renew(r, n)), answer(() -> m.renew(r, n)));
        } else if (kind < 47) {
            int word = odd(pick(5));
            int many = odd(1 + pick(4));
            same(run, "read", answer(() -> x.read(r, handle, a, word, many)), answer(() -> m.read(r, handle, a, word, many)));
        } else if (kind < 50) {
            int word = odd(pick(6));
            int value = odd(pick(65536));
            same(run, "write", answer(() -> x.write(r, handle, a, word, value)), answer(() -> m.write(r, handle, a, word, value)));
        } else if (kind < 52) {
            same(run, "lock", answer(() -> x.lock(r, handle, a, b)), answer(() -> m.lock(r, handle, a, b)));
        } else if (kind < 57) {
            passes(run, x, m, r, handle);
        } else {
            steering(run, x, m, new int[] {r, s, a});
        }
    }

    private static Model.T oneOf(Model m, int lowest, int highest) {
        int at = pick(Math.max(1, m.tags.size()));
        for (int i = 0; i < m.tags.size(); i++) {
            Model.T t = m.tags.get((at + i) % m.tags.size());
            if (t.state >= lowest && t.state <= highest) {
                return t;
            }
        }
        return null;
    }

    // Goes on with a tag that is on its way to be opened, so that words are written, locks told, halves tried.
    private static void approach(int run, TagRounds x, Model m, int r, int session) {
        Model.T open = oneOf(m, 4, 5);
        Model.T replying = oneOf(m, 2, 2);
        Model.T known = oneOf(m, 3, 3);
        if (open != null && pick(8) != 0) {
            access(run, x, m, r, open);
        } else if (known != null) {
            same(run, "renew", answer(() -> x.renew(r, known.number)), answer(() -> m.renew(r, known.number)));
        } else if (replying != null) {
            same(run, "ack", answer(() -> x.ack(r, replying.number)), answer(() -> m.ack(r, replying.number)));
        } else {
            int q = pick(2);
            int target = pick(2);
            same(run, "query", answer(() -> x.query(r, 0, session, target, q)), answer(() -> m.query(r, 0, session, target, q)));
        }
    }

    private static void access(int run, TagRounds x, Model m, int r, Model.T t) {
        int handle = t.handle;
        int kind = pick(10);
        int bank = pick(4);
        int word = pick(bank == 1 ? 7 : 5);
        int area = pick(4);
        if (kind < 4 && (t.cover == Model.NONE || pick(6) == 0)) {
            same(run, "renew", answer(() -> x.renew(r, handle)), answer(() -> m.renew(r, handle)));
        } else if (kind < 6) {
            passes(run, x, m, r, handle);
        } else if (kind < 7) {
            int many = 1 + pick(pick(2) == 0 ? 1 : 4);
            same(run, "read", answer(() -> x.read(r, handle, bank, word, many)), answer(() -> m.read(r, handle, bank, word, many)));
        } else if (kind < 9) {
            int value = pick(4) == 0 && t.cover != Model.NONE ? t.cover : pick(65536);
            same(run, "write", answer(() -> x.write(r, handle, bank, word, value)), answer(() -> m.write(r, handle, bank, word, value)));
        } else {
            int mode = pick(3) == 0 ? pick(4) : pick(2);
            same(run, "lock", answer(() -> x.lock(r, handle, area, mode)), answer(() -> m.lock(r, handle, area, mode)));
        }
    }

    private static void passes(int run, TagRounds x, Model m, int r, int handle) {
        boolean kill = pick(2) == 0;
        int half = odd(pick(65536));
        for (Model.T t : m.tags) {
            if (t.handle == handle && t.half != null && pick(6) != 0) {
                kill = t.half;
            }
            if (t.handle == handle && t.cover != Model.NONE && pick(8) != 0) {
                half = t.cover ^ t.bank[0][(kill ? 0 : 2) + (t.half == null ? 0 : 1)];
            }
        }
        int theHalf = half;
        boolean theKill = kill;
        same(run, "pass", answer(() -> x.pass(r, handle, theHalf, theKill)), answer(() -> m.pass(r, handle, theHalf, theKill)));
    }

    private static void steering(int run, TagRounds x, Model m, int[] given) {
        int r = given[0];
        int s = given[1];
        int what = given[2];
        int target = odd(pick(2));
        int q = odd(pick(4) == 0 ? pick(16) : pick(5));
        int kind = pick(7);
        if (kind == 0) {
            int n = odd(pick(3) == 0 ? pick(1501) : pick(120));
            same(run, "steer", answer(() -> x.steer(r, what % 2, n)), answer(() -> m.steer(r, what % 2, n)));
        } else if (kind < 3) {
            int which = odd(pick(6) == 0 ? pick(3) : 0);
            int most = odd(1 + pick(60));
            same(run, "round", answer(() -> x.round(r, which, s, target, most)), answer(() -> m.round(r, which, s, target, most)));
        } else if (kind < 4) {
            same(run, "foresee", answer(() -> x.foresee(r, s, target, q, what)), answer(() -> m.foresee(r, s, target, q, what)));
        } else if (kind < 5) {
            same(run, "wise", answer(() -> x.wise(r, s, target)), answer(() -> m.wise(r, s, target)));
        } else if (kind < 6) {
            int n = odd(1 + pick(99));
            int rateQ = odd(pick(17) - 1);
            same(run, "rate", answer(() -> x.rate(n, rateQ)), answer(() -> m.rate(n, rateQ)));
        } else {
            int t = tagOf(m);
            same(run, "chances", answer(() -> x.chances(r, t)), answer(() -> m.chances(r, t)));
            same(run, "flag", answer(() -> x.flag(t, q)), answer(() -> m.flag(t, q)));
            same(run, "fades", answer(() -> x.fades(t, q)), answer(() -> m.fades(t, q)));
            same(run, "mode", answer(() -> x.mode(t, q)), answer(() -> m.mode(t, q)));
            same(run, "word", answer(() -> x.word(t, what, q)), answer(() -> m.word(t, what, q)));
            same(run, "tag", answer(() -> x.tag(t, q)), answer(() -> m.tag(t, q)));
            same(run, "left", answer(() -> x.left(q, target)), answer(() -> m.left(q, target)));
            same(run, "log", answer(() -> x.log(q, what)), answer(() -> m.log(q, what)));
        }
    }

    public static void main(String[] args) {
        int runs = args.length > 0 ? Integer.parseInt(args[0]) : 400;
        int first = args.length > 1 ? Integer.parseInt(args[1]) : 1;
        for (int run = first; run < first + runs; run++) {
            state = run * 7919L;
            TagRounds x = new TagRounds();
            Model m = new Model();
            int reader = 0;
            int session = pick(4);
            for (int n = 0; n < 1 + pick(4); n++) {
                int reach = pick(8) | 1;
                int words = 1 + pick(4);
                same(run, "add", x.add(reach, words, 305397760 + n, n), m.add(reach, words, 305397760 + n, n));
            }
            same(run, "power", b(x.power(0, true)), b(m.power(0, true)));
            for (calls = 0; calls < 500; calls++) {
                reader = pick(30) == 0 ? pick(4) : reader;
                session = pick(60) == 0 ? pick(4) : session;
                if (run % 2 == 0 || pick(6) == 0) {
                    step(run, x, m, reader, session);
                } else {
                    approach(run, x, m, reader, session);
                }
                seen(run, x, m, calls % 16 == 0);
            }
        }
        System.out.println("ModelTest: " + runs + " runs alike");
    }
}
