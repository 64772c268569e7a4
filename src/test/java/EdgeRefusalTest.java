import java.lang.reflect.InvocationTargetException;
import java.lang.reflect.Method;
import java.util.ArrayList;
import java.util.Arrays;
import java.util.List;
import java.util.NoSuchElementException;

/**
 * The row ahead of promise 1. Every call of the face with every number too small or too great, alone and together:
 * which exception it throws, that it changes nothing, and that the numbers just inside are taken.
 */
public final class EdgeRefusalTest {
    private static final Class<?> INDEX = IndexOutOfBoundsException.class;
    private static final Class<?> ELEMENT = NoSuchElementException.class;
    private static final Class<?> ARGUMENT = IllegalArgumentException.class;
    private static final Class<?> STATE = IllegalStateException.class;
    private static final List<Class<?>> ORDER = List.of(INDEX, ELEMENT, ARGUMENT, STATE);
    private static final int NONE_REFUSED = ORDER.size();

    /** One number of a call: those that are taken, those that are not, and what is thrown then. */
    private static final class Arg {
        final Class<?> due;
        final int[] taken;
        final int[] refused;

        Arg(Class<?> due, int[] taken, int[] refused) {
            this.due = due;
            this.taken = taken;
            this.refused = refused;
        }
    }

    private static final class Call {
        final String name;
        final boolean command;
        final Arg[] args;

        Call(String name, boolean command, Arg... args) {
            this.name = name;
            this.command = command;
            this.args = args;
        }
    }

    private static Arg range(Class<?> due, int least, int greatest) {
        return new Arg(due, new int[] {least, greatest}, new int[] {least - 1, greatest + 1, Integer.MIN_VALUE, Integer.MAX_VALUE});
    }

    private static Arg just(Class<?> due, int taken, int... refused) {
        return new Arg(due, new int[] {taken}, refused);
    }

    private static Arg any() {
        return new Arg(ARGUMENT, new int[] {-1, Integer.MIN_VALUE, Integer.MAX_VALUE}, new int[] {});
    }

    private static List<Call> calls(int tags) {
        Arg reader = new Arg(INDEX, new int[] {0, 1, 3}, new int[] {-1, 4, Integer.MIN_VALUE, Integer.MAX_VALUE});
        Arg tag = range(INDEX, 0, tags - 1);
        Arg first = just(INDEX, 0, -1, tags, 16, Integer.MIN_VALUE, Integer.MAX_VALUE);
        Arg session = range(ARGUMENT, 0, 3);
        Arg bit = range(ARGUMENT, 0, 1);
        Arg word = range(ARGUMENT, 0, 65535);
        Arg flag = range(ARGUMENT, 0, 4);
        Arg q = range(ARGUMENT, 0, 15);
        List<Call> l = new ArrayList<>();
        l.add(new Call("add", false, range(ARGUMENT, 0, 15), range(ARGUMENT, 1, 4), any(), any()));
        l.add(new Call("move", false, tag, range(ARGUMENT, 0, 15)));
        l.add(new Call("power", false, reader, bit));
        l.add(new Call("time", false, just(ELEMENT, 0, -1, 3, Integer.MIN_VALUE, Integer.MAX_VALUE), range(ARGUMENT, 0, 999)));
        l.add(new Call("time", false, new Arg(ELEMENT, new int[] {1, 2}, new int[] {-1, 3}), range(ARGUMENT, 1, 9999)));
        l.add(new Call("slice", false, reader, range(ARGUMENT, 0, 999), range(ARGUMENT, 0, 999)));
        l.add(new Call("rest", false, range(ARGUMENT, 1, 9999)));
        l.add(new Call("seed", false, tag, any()));
        for (int bank = 0; bank < 4; bank++) {
            Arg banks = just(INDEX, bank, -1, 4, Integer.MIN_VALUE, Integer.MAX_VALUE);
            int[] words = {3, 2, 1, 3};
            Arg place = range(INDEX, 0, words[bank]);
            Arg told = bank == 1 ? just(INDEX, 2, 1, 0, -1, 3) : place;
            Arg never = new Arg(INDEX, new int[] {}, new int[] {-1, 0, 1, 2, Integer.MAX_VALUE});
            l.add(new Call("store", false, first, banks, bank == 2 ? never : told, word));
            l.add(new Call("word", false, first, banks, place));
        }
        l.add(new Call("mask", false, range(ARGUMENT, 1, 3), range(ARGUMENT, 0, 255), range(ARGUMENT, 0, 31), any()));
        l.add(new Call("select", true, reader, flag, range(ARGUMENT, 0, 7)));
        l.add(new Call("query", true, reader, range(ARGUMENT, 0, 2), session, bit, q));
        l.add(new Call("adjust", true, reader, session, range(ARGUMENT, -1, 1)));
        l.add(new Call("next", true, reader, session));
        l.add(new Call("ack", true, reader, any()));
        l.add(new Call("nak", true, reader));
        l.add(new Call("renew", true, reader, any()));
        l.add(new Call("read", true, reader, any(), session, any(), range(ARGUMENT, 1, 4)));
        l.add(new Call("write", true, reader, any(), session, any(), word));
        l.add(new Call("lock", true, reader, any(), session, session));
        l.add(new Call("pass", true, reader, any(), word, bit));
        l.add(new Call("steer", false, reader, just(ELEMENT, 0, -1, 2, Integer.MIN_VALUE, Integer.MAX_VALUE), range(ARGUMENT, 0, 1500)));
        l.add(new Call("steer", false, reader, just(ELEMENT, 1, -1, 2, Integer.MIN_VALUE, Integer.MAX_VALUE), range(ARGUMENT, 1, 100)));
        l.add(new Call("round", true, reader, range(ARGUMENT, 0, 2), session, bit, range(ARGUMENT, 1, 400)));
        l.add(new Call("foresee", false, reader, session, bit, q, range(ELEMENT, 0, 3)));
        l.add(new Call("wise", false, reader, session, bit));
        l.add(new Call("chances", false, reader, tag));
        l.add(new Call("reader", false, reader, range(ELEMENT, 0, 15)));
        l.add(new Call("tag", false, tag, range(ELEMENT, 0, 14)));
        l.add(new Call("flag", false, tag, flag));
        l.add(new Call("fades", false, tag, flag));
        l.add(new Call("mode", false, tag, session));
        l.add(new Call("log", false, any(), range(ELEMENT, 0, 3)));
        l.add(new Call("left", false, flag, bit));
        l.add(new Call("rate", false, range(ARGUMENT, 1, 99), range(ARGUMENT, -1, 15)));
        l.add(new Call("count", false, any()));
        l.add(new Call("heard", false, any()));
        l.add(new Call("sent", false, any()));
        return l;
    }

    // An object in the midst of things: READERS 0 and 3 are ON, 1 and 2 OFF; with 16 TAGS or fewer; at the end of NOW or not.
    private static TagRounds made(int kind) {
        TagRounds x = Check.with(kind == 1 ? 13 : 3);
        for (int i = 0; i < 3; i++) {
            x.add(9, 4, 0x12345678 + i, -i);
        }
        x.move(0, 15);
        for (int i = 0; i < 4; i++) {
            x.store(0, 0, i, i);
        }
        x.move(0, 0);
        for (int i = 0; i < 3; i++) {
            Check.same("a word", x.store(1, 3, i, i + 1), 0);
        }
        x.steer(0, 0, 100);
        x.steer(3, 1, 50);
        x.mask(1, 33, 7, 17);
        x.select(0, 1, 5);
        x.round(0, 0, 2, 0, 7);
        x.power(3, true);
        x.time(0, 40);
        x.slice(3, 38, 2);
        x.slice(1, 4, 9);
        x.query(0, 0, 2, 0, 1);
        if (kind == 2) {
            Check.until(x, 99999);
        }
        return x;
    }

    private static Method method(String name) {
        for (Method m : TagRounds.class.getMethods()) {
            if (m.getName().equals(name) && m.getDeclaringClass() == TagRounds.class) {
                return m;
            }
        }
        throw new IllegalStateException("no method " + name);
    }

    private static Object[] given(Method m, int[] numbers) {
        Object[] given = new Object[numbers.length];
        for (int i = 0; i < numbers.length; i++) {
            given[i] = m.getParameterTypes()[i] == boolean.class ? (Object) (numbers[i] == 1) : (Object) numbers[i];
        }
        return given;
    }

    // What the call throws, as its place in ORDER; what comes from the machine is a fault by itself.
    private static int thrown(TagRounds x, Method m, int[] numbers, String what) {
        try {
            m.invoke(x, given(m, numbers));
            return NONE_REFUSED;
        } catch (InvocationTargetException e) {
            Throwable cause = e.getCause();
            Check.same(what + " throws by itself", cause.getStackTrace()[0].getClassName().startsWith("TagRounds"), true);
            return ORDER.indexOf(cause.getClass());
        } catch (IllegalAccessException e) {
            return -1;
        }
    }

    // A boolean takes no number that could be refused.
    private static int[] refusedOf(Method m, Arg a, int i) {
        return m.getParameterTypes()[i] == boolean.class ? new int[0] : a.refused;
    }

    /** Tries all numbers of a call together: those with a refusal on one object, those without on others. */
    private static final class Trial {
        final Call call;
        final Method m;
        final int kind;
        final TagRounds refusing;
        TagRounds taking;
        int takenCalls;

        Trial(Call call, int kind) {
            this.call = call;
            this.m = method(call.name);
            this.kind = kind;
            this.refusing = made(kind);
            this.taking = made(kind);
        }

        void go(int[] numbers, int at, int worst) {
            if (at == numbers.length) {
                tried(numbers, worst);
                return;
            }
            for (int n : call.args[at].taken) {
                numbers[at] = n;
                go(numbers, at + 1, worst);
            }
            for (int n : refusedOf(m, call.args[at], at)) {
                numbers[at] = n;
                go(numbers, at + 1, Math.min(worst, ORDER.indexOf(call.args[at].due)));
            }
        }

        private void tried(int[] numbers, int worst) {
            String what = call.name + Arrays.toString(numbers);
            TagRounds x = worst < NONE_REFUSED ? refusing : taking;
            int due = worst;
            if (due == NONE_REFUSED && (call.command && cannot(x, numbers[0]) || call.name.equals("add") && x.count(0) == 16)) {
                due = ORDER.indexOf(STATE);
                x = refusing;
            }
            Check.text(what + " throws", nameOf(thrown(x, m, numbers, what)), nameOf(due));
            if (due == NONE_REFUSED && ++takenCalls % 8 == 0) {
                taking = made(kind);
            }
        }

        private boolean cannot(TagRounds x, int reader) {
            return x.reader(reader, 0) == 0 || x.count(1) == 99999;
        }
    }

    private static String nameOf(int place) {
        if (place == NONE_REFUSED) {
            return "nothing";
        }
        return place < 0 ? "something else" : ORDER.get(place).getSimpleName();
    }

    // All that an object shows, and what it does later: MASK, SLICES and DRAWS show just so.
    private static String later(TagRounds x) {
        StringBuilder b = new StringBuilder(Check.seen(x));
        for (int what = 0; what < 3; what++) {
            b.append(x.time(what, 37)).append(' ');
        }
        for (int r = 0; r < 4; r++) {
            b.append(x.power(r, true)).append(' ').append(x.steer(r, 0, 200)).append(' ').append(x.steer(r, 1, 9)).append(' ');
        }
        for (int i = 0; i < 38; i++) {
            for (int r = 0; r < 4; r++) {
                b.append(x.reader(r, 1)).append(x.reader(r, 12)).append(' ');
            }
            for (int t = 0; t < x.count(0); t++) {
                b.append(x.chances(i % 4, t)).append(' ');
            }
            x.rest(1);
        }
        if (x.count(0) < 16) {
            b.append(x.add(7, 2, 3, 4));
        }
        for (int t = 0; t < x.count(0); t++) {
            b.append(x.move(t, 1)).append(' ');
        }
        if (x.count(1) < 90000) {
            b.append(x.select(0, 4, 0)).append(Check.sent(x)).append(' ');
            for (int r = 0; r < 4; r++) {
                b.append(x.round(r, 0, 3, 0, 40)).append(' ');
            }
        }
        return b.append(Check.seen(x)).toString();
    }

    private static void tryAll() {
        Check.sentence("Of several exceptions the one told first is thrown; a call that throws changes nothing.");
        for (int kind = 0; kind < 3; kind++) {
            String due = later(made(kind));
            for (Call c : calls(made(kind).count(0))) {
                Trial t = new Trial(c, kind);
                t.go(new int[c.args.length], 0, NONE_REFUSED);
                Check.text(c.name + ": refused calls change something; later", later(t.refusing), due);
            }
        }
    }

    private static void words() {
        Check.sentence("IndexOutOfBoundsException: there is no such READER, TAG, word. IllegalArgumentException: a number is none.");
        TagRounds x = new TagRounds();
        Check.index(x, "no TAGS", () -> x.tag(0, 0));
        Check.same("the first", x.add(0, 1, 0, 0), 0);
        Check.same("it is there", x.tag(0, 0), 0);
        Check.index(x, "no second", () -> x.tag(1, 0));
        Check.index(x, "no word", () -> x.word(0, 1, 3));
        Check.same("the last word", x.word(0, 1, 2), 0);
        Check.index(x, "no READER", () -> x.power(4, false));
        Check.same("the last READER", x.power(3, false), false);
        Check.argument(x, "no number", () -> x.left(5, 0));
        Check.same("a number", x.left(4, 0), 0);
    }

    public static void main(String[] args) {
        words();
        tryAll();
        Check.end("EdgeRefusalTest");
    }
}
