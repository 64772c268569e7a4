import java.lang.reflect.Field;
import java.lang.reflect.Method;
import java.lang.reflect.Modifier;
import java.util.Set;
import java.util.TreeSet;

/** The face is the document's and nothing more. */
public final class FaceTest {
    private static final String[] FACE = {
        "int add(int,int,int,int) IllegalArgumentException,IllegalStateException",
        "int move(int,int) IndexOutOfBoundsException,IllegalArgumentException",
        "boolean power(int,boolean) IndexOutOfBoundsException",
        "int time(int,int) NoSuchElementException,IllegalArgumentException",
        "void slice(int,int,int) IndexOutOfBoundsException,IllegalArgumentException",
        "int rest(int) IllegalArgumentException",
        "int seed(int,int) IndexOutOfBoundsException",
        "int store(int,int,int,int) IndexOutOfBoundsException,IllegalArgumentException",
        "void mask(int,int,int,int) IllegalArgumentException",
        "int select(int,int,int) IndexOutOfBoundsException,IllegalArgumentException,IllegalStateException",
        "int query(int,int,int,int,int) IndexOutOfBoundsException,IllegalArgumentException,IllegalStateException",
        "int adjust(int,int,int) IndexOutOfBoundsException,IllegalArgumentException,IllegalStateException",
        "int next(int,int) IndexOutOfBoundsException,IllegalArgumentException,IllegalStateException",
        "int ack(int,int) IndexOutOfBoundsException,IllegalStateException",
        "int nak(int) IndexOutOfBoundsException,IllegalStateException",
        "int renew(int,int) IndexOutOfBoundsException,IllegalStateException",
        "int read(int,int,int,int,int) IndexOutOfBoundsException,IllegalArgumentException,IllegalStateException",
        "int write(int,int,int,int,int) IndexOutOfBoundsException,IllegalArgumentException,IllegalStateException",
        "int lock(int,int,int,int) IndexOutOfBoundsException,IllegalArgumentException,IllegalStateException",
        "int pass(int,int,int,boolean) IndexOutOfBoundsException,IllegalArgumentException,IllegalStateException",
        "int heard(int) ",
        "int steer(int,int,int) IndexOutOfBoundsException,NoSuchElementException,IllegalArgumentException",
        "int round(int,int,int,int,int) IndexOutOfBoundsException,IllegalArgumentException,IllegalStateException",
        "int sent(int) ",
        "int foresee(int,int,int,int,int) IndexOutOfBoundsException,NoSuchElementException,IllegalArgumentException",
        "int wise(int,int,int) IndexOutOfBoundsException,IllegalArgumentException",
        "int chances(int,int) IndexOutOfBoundsException",
        "int reader(int,int) IndexOutOfBoundsException,NoSuchElementException",
        "int tag(int,int) IndexOutOfBoundsException,NoSuchElementException",
        "int flag(int,int) IndexOutOfBoundsException,IllegalArgumentException",
        "int fades(int,int) IndexOutOfBoundsException,IllegalArgumentException",
        "int word(int,int,int) IndexOutOfBoundsException",
        "int mode(int,int) IndexOutOfBoundsException,IllegalArgumentException",
        "int log(int,int) NoSuchElementException",
        "int left(int,int) IllegalArgumentException",
        "int rate(int,int) IllegalArgumentException",
        "int count(int) ",
    };

    private static String listed(Class<?>[] types) {
        StringBuilder b = new StringBuilder();
        for (Class<?> c : types) {
            b.append(b.length() == 0 ? "" : ",").append(c.getSimpleName());
        }
        return b.toString();
    }

    public static void main(String[] args) throws NoSuchFieldException {
        Set<String> due = new TreeSet<>(Set.of(FACE));
        Set<String> names = new TreeSet<>();
        for (String s : FACE) {
            names.add(s.substring(s.indexOf(' ') + 1, s.indexOf('(')));
        }
        for (Method m : TagRounds.class.getDeclaredMethods()) {
            String text = m.getReturnType() + " " + m.getName() + "(" + listed(m.getParameterTypes()) + ") " + listed(m.getExceptionTypes());
            if (Modifier.isPrivate(m.getModifiers())) {
                Check.same("a private method bears the name " + m.getName(), names.contains(m.getName()), false);
            } else {
                Check.same("of the face: " + text, due.remove(text) && Modifier.isPublic(m.getModifiers()), true);
            }
        }
        Check.text("missing", due.toString(), "[]");
        for (Field f : TagRounds.class.getDeclaredFields()) {
            Check.same("private: " + f.getName(), Modifier.isPrivate(f.getModifiers()), !f.getName().equals("NONE"));
        }
        Field none = TagRounds.class.getField("NONE");
        Check.same("NONE is a constant", none.getModifiers(), Modifier.PUBLIC | Modifier.STATIC | Modifier.FINAL);
        Check.same("class", TagRounds.class.getModifiers(), Modifier.PUBLIC | Modifier.FINAL);
        Check.same("constructors", TagRounds.class.getDeclaredConstructors().length, 1);
        Check.same("constructor", TagRounds.class.getDeclaredConstructors()[0].getModifiers(), Modifier.PUBLIC);
        for (Class<?> c : TagRounds.class.getDeclaredClasses()) {
            Check.same("static: " + c.getSimpleName(), Modifier.isStatic(c.getModifiers()), true);
            Check.same("not public: " + c.getSimpleName(), Modifier.isPublic(c.getModifiers()) || Modifier.isProtected(c.getModifiers()), false);
        }
        Check.end("FaceTest");
    }
}
