import java.io.IOException;
import java.lang.reflect.Array;
import java.lang.reflect.Constructor;
import java.lang.reflect.Field;
import java.lang.reflect.Method;
import java.lang.reflect.Modifier;
import java.nio.file.Files;
import java.nio.file.Path;
import java.util.ArrayList;
import java.util.Arrays;
import java.util.Collections;
import java.util.IdentityHashMap;
import java.util.List;
import java.util.Set;
import java.util.TreeSet;

/** The face is the document's and no more, and the file keeps to those rules of LANGUAGE.md that can be seen at a glance. */
public final class HookPierFace {
    private static final String[] FACE = {
        "int feed(int, int, int, int, int)", "int pier(int)", "int fault()", "int where()", "int answer(int, int)",
        "int asker(int, int)", "int close(int)", "int wish(int, int, int, int)",
        "long takes(int, int, int, int, boolean)", "long nothing(int, int, int, boolean)",
        "long mean(int, int, int, boolean)", "int likeliest(int, int, int)", "int surest(int)",
        "long surestOdds(int, boolean)", "int best()", "int bestBait()", "int hungerFor(int, int, int, int)",
        "int freeSpots(int)", "int tangles(int, int, int, int)", "int seatings()", "int seat(int)", "int mostSeated()",
        "int darks()", "int darkAt(int)", "int darkSpots()", "int ask()", "int askLeaves()", "int judge(int)",
        "int worth(int, int, int)", "int load(int)", "int loadWorth(int)", "int bestDay()",
        "int hooks(int, int, int, int, boolean)", "int lines(int, int, int, boolean)", "int rests(int)", "int rest(int)",
        "int landed(int, int)", "int landedIn(int, int, int)", "int crabs(int, int)", "boolean let(int, int, int, int)",
        "boolean drawIn(int)", "int sell(int)", "int day()", "boolean seed(int)", "boolean undo()", "int mark()",
        "boolean back(int)", "int led(int)", "int size(int)", "int trouble()"};
    private static final String[] RULED_OUT = {
        "->", "::", "Exact(", "finally", "synchronized", "assert ", "catch", "var ", "System.out", "System.nano",
        "System.current", "Random", "Thread", "Integer.MAX", "Integer.MIN", "protected", "hashCode", "getMessage",
        "double", "float", "\"\"\""};
    private static final int LONGEST_METHOD = 60;

    private static int wrong = 0;

    private static void check(boolean good, String what) {
        if (!good) {
            wrong++;
            System.out.println("not so: " + what);
        }
    }

    private static String signature(Method m) {
        List<String> types = new ArrayList<>();
        for (Class<?> c : m.getParameterTypes()) {
            types.add(c.getName());
        }
        return m.getReturnType().getName() + " " + m.getName() + "(" + String.join(", ", types) + ")";
    }

    private static void checkFace() throws NoSuchMethodException {
        Class<?> c = HookPier.class;
        check(Modifier.isPublic(c.getModifiers()) && Modifier.isFinal(c.getModifiers()), "public final class");
        Set<String> open = new TreeSet<>();
        Set<String> names = new TreeSet<>();
        for (Method m : c.getDeclaredMethods()) {
            if (!Modifier.isPrivate(m.getModifiers())) {
                check(Modifier.isPublic(m.getModifiers()) && !Modifier.isStatic(m.getModifiers()), "public: " + m);
                open.add(signature(m));
                names.add(m.getName());
            }
        }
        check(open.equals(new TreeSet<>(Arrays.asList(FACE))), "the methods of the face: " + open);
        check(Arrays.asList(c.getMethod("led", int.class).getExceptionTypes())
                .equals(List.of(java.util.NoSuchElementException.class)), "led throws NoSuchElementException");
        Constructor<?>[] makers = c.getDeclaredConstructors();
        check(makers.length == 1 && makers[0].getParameterCount() == 0 && Modifier.isPublic(makers[0].getModifiers()),
                "one public constructor");
        for (Field f : c.getDeclaredFields()) {
            check(Modifier.isPrivate(f.getModifiers()) || f.getName().equals("NONE"), "private: " + f);
        }
        List<Class<?>> all = new ArrayList<>(Arrays.asList(c.getDeclaredClasses()));
        check(all.size() < 12, "at most some twelve classes");
        for (Class<?> inside : all) {
            check(Modifier.isStatic(inside.getModifiers()) && !Modifier.isPublic(inside.getModifiers()), "static: " + inside);
        }
        all.add(c);
        for (Class<?> any : all) {
            checkClass(any, names);
        }
    }

    private static void checkClass(Class<?> c, Set<String> names) {
        int own = 0;
        for (Field f : c.getDeclaredFields()) {
            check(!Modifier.isStatic(f.getModifiers()) || Modifier.isFinal(f.getModifiers()), "final: " + f);
            own += Modifier.isStatic(f.getModifiers()) ? 0 : 1;
        }
        check(own <= 20, "some twenty fields: " + c);
        for (Method m : c.getDeclaredMethods()) {
            check(m.getParameterCount() <= 7, "at most seven parameters: " + m);
            check(Modifier.isPublic(m.getModifiers()) || !names.contains(m.getName()), "a name of its own: " + m);
        }
    }

    private static void checkSource() throws IOException {
        List<String> source = Files.readAllLines(Path.of("src/main/java/HookPier.java"));
        int start = 0;
        for (int i = 0; i < source.size(); i++) {
            String line = source.get(i);
            check(!line.startsWith("import") || line.equals("import java.util.NoSuchElementException;"), line);
            check(!line.startsWith("package"), line);
            for (String bad : RULED_OUT) {
                check(!line.contains(bad), "line " + (i + 1) + " without " + bad);
            }
            for (int j = 0; j < line.length(); j++) {
                check(line.charAt(j) < 128, "line " + (i + 1) + " has plain signs");
            }
            String bare = line.strip();
            boolean begins = line.matches(" {4}(    )?[a-z].*\\) (throws \\w+ )?\\{") && !bare.startsWith("for") && !bare.startsWith("if");
            start = begins ? i : start;
            check(!line.matches(" {4}(    )?\\}") || i - start < LONGEST_METHOD || line.startsWith("    }"),
                    "the method that ends in line " + (i + 1) + " is short");
        }
    }

    /** How many objects and arrays can be come to from one, and how many fields and elements they have. */
    private static int[] roomOf(Object first) throws IllegalAccessException {
        List<Object> todo = new ArrayList<>(List.of(first));
        Set<Object> seen = Collections.newSetFromMap(new IdentityHashMap<>());
        int parts = 0;
        while (!todo.isEmpty()) {
            Object o = todo.remove(todo.size() - 1);
            if (o != null && seen.add(o)) {
                boolean isArray = o.getClass().isArray();
                parts += isArray ? Array.getLength(o) : 0;
                if (isArray && !o.getClass().getComponentType().isPrimitive()) {
                    todo.addAll(Arrays.asList((Object[]) o));
                }
                for (Field f : isArray ? new Field[0] : o.getClass().getDeclaredFields()) {
                    if (!Modifier.isStatic(f.getModifiers())) {
                        parts++;
                        f.setAccessible(true);
                        todo.add(f.getType().isPrimitive() ? null : f.get(o));
                    }
                }
            }
        }
        return new int[] {seen.size(), parts};
    }

    /** Some 600,000 objects and 7.3 million parts are there for a whole run, so one object has a small share and never grows. */
    private static void checkRoom() throws IllegalAccessException {
        HookPier x = new HookPier();
        int[] fresh = roomOf(x);
        check(fresh[0] <= 300 && fresh[1] <= 4000, "a small room: " + Arrays.toString(fresh));
        for (int i = 0; i < 100; i++) {
            x.feed(0x70696572, 0x2073706f, 0x74732034, 0x20646565, 0x70203320);
            x.feed(0x66726f6d, 0x20352074, 0x6f20363b, 0x62616974, 0x20742020);
            x.pier(38);
            x.day();
            x.mark();
        }
        check(Arrays.equals(fresh, roomOf(x)), "a room that doesn't grow: " + Arrays.toString(roomOf(x)));
    }

    public static void main(String[] args) throws IOException, NoSuchMethodException, IllegalAccessException {
        checkFace();
        checkSource();
        checkRoom();
        System.out.println(wrong == 0 ? "the face is as due" : wrong + " things are not as due");
        if (wrong != 0) {
            System.exit(1);
        }
    }
}
