import java.lang.reflect.Constructor;
import java.lang.reflect.Field;
import java.lang.reflect.Method;
import java.lang.reflect.Modifier;
import java.util.HashSet;
import java.util.Set;
import java.util.TreeSet;

/** The public face is the document's and no more; a new object (promise 1). */
public final class FaceTest {
    private static final String[] FACE = {
        "int folder(int,int) NoSuchElementException",
        "int file(int,int,int,int) NoSuchElementException",
        "int copy(int,int,int) NoSuchElementException",
        "int link(int,int,int) NoSuchElementException",
        "boolean move(int,int,int) NoSuchElementException",
        "int remove(int) NoSuchElementException",
        "boolean hold(int,boolean) NoSuchElementException",
        "int write(int,int,int) NoSuchElementException IllegalArgumentException",
        "int fill(int,int,int,int) NoSuchElementException IllegalArgumentException",
        "int at(int,int) NoSuchElementException",
        "int about(int,int) NoSuchElementException",
        "int find()",
        "int reads()",
        "int groupOf(int) NoSuchElementException",
        "int member(int,int) NoSuchElementException",
        "int near(int,int) NoSuchElementException",
        "int nearest(int,int) NoSuchElementException IllegalArgumentException",
        "int differ(int,int) NoSuchElementException",
        "int wish(int,int) NoSuchElementException IllegalArgumentException",
        "int unwish()",
        "boolean leave(int,int) IllegalArgumentException",
        "int keep(int) NoSuchElementException",
        "int merge(int) NoSuchElementException",
        "int unmerge()",
        "int days(int) IllegalArgumentException",
        "int count(int) NoSuchElementException",
    };

    public static void main(String[] args) {
        face();
        newObject();
        Check.end();
    }

    private static void face() {
        Set<String> methods = new TreeSet<>();
        Set<String> publicNames = new HashSet<>();
        for (Method m : SameAgain.class.getDeclaredMethods()) {
            if (!Modifier.isPrivate(m.getModifiers())) {
                methods.add(told(m));
                publicNames.add(m.getName());
            }
        }
        Check.due("methods", new TreeSet<>(Set.of(FACE)), () -> methods);
        Set<String> fields = new TreeSet<>();
        for (Field f : SameAgain.class.getDeclaredFields()) {
            if (!Modifier.isPrivate(f.getModifiers())) {
                fields.add(Modifier.toString(f.getModifiers()) + " " + f.getType() + " " + f.getName());
            }
        }
        Check.due("fields", Set.of("public static final int NONE"), () -> fields);
        Constructor<?>[] made = SameAgain.class.getDeclaredConstructors();
        Check.due("constructors", 1, () -> made.length);
        Check.due("constructor", "public SameAgain()", () -> made[0].toString());
        Check.due("class", "public final", () -> Modifier.toString(SameAgain.class.getModifiers()));
        Check.due("NONE", -1, () -> SameAgain.NONE);
        noPrivateNameIsPublic(publicNames);
    }

    private static void noPrivateNameIsPublic(Set<String> publicNames) {
        Set<String> shared = new TreeSet<>();
        for (Class<?> c : SameAgain.class.getDeclaredClasses()) {
            for (Method m : c.getDeclaredMethods()) {
                shared.add(m.getName());
            }
        }
        for (Method m : SameAgain.class.getDeclaredMethods()) {
            if (Modifier.isPrivate(m.getModifiers())) {
                shared.add(m.getName());
            }
        }
        shared.retainAll(publicNames);
        Check.due("private methods with a public one's name", Set.of(), () -> shared);
    }

    private static String told(Method m) {
        StringBuilder told = new StringBuilder(m.getReturnType() + " " + m.getName() + "(");
        for (Class<?> c : m.getParameterTypes()) {
            told.append(told.charAt(told.length() - 1) == '(' ? "" : ",").append(c);
        }
        told.append(")");
        for (Class<?> c : m.getExceptionTypes()) {
            told.append(" ").append(c.getSimpleName());
        }
        return told.toString();
    }

    private static void newObject() {
        SameAgain x = new SameAgain();
        int[] counts = {1, 0, 0, 0, 0, 0, 0, 0};
        for (int i = 0; i < counts.length; i++) {
            int what = i;
            Check.due("new: count(" + i + ")", counts[i], () -> x.count(what));
        }
        Check.due("new: reads", 0, () -> x.reads());
        Check.noSuch("new: no file 0", () -> x.about(0, 0));
        Check.noSuch("new: no folder 1", () -> x.folder(1, 0));
        Check.noSuch("new: no group 0", () -> x.keep(0));
        Check.due("new: no wishes", 0, () -> x.unwish());
        Check.due("new: no merging", -1, () -> x.unmerge());
        for (int owner = 0; owner < 8; owner++) {
            for (int from = 0; from < 8; from++) {
                int o = owner;
                int f = from;
                Check.due("new: no leave " + o + " " + f, true, () -> x.leave(o, f));
            }
        }
        SameAgain y = new SameAgain();
        Check.due("another object has its own leave", true, () -> y.leave(0, 1));
        Check.due("another object has its own files", 0, () -> y.file(0, 0, 0, 0));
        Check.due("the first has none by that", 0, () -> x.count(1));
    }
}
