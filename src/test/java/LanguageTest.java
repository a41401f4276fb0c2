import java.lang.reflect.Constructor;
import java.lang.reflect.Executable;
import java.lang.reflect.Field;
import java.lang.reflect.Method;
import java.lang.reflect.Modifier;
import java.nio.file.Files;
import java.nio.file.Path;
import java.util.TreeSet;
import java.util.regex.Matcher;
import java.util.regex.Pattern;

/** The face of the class, and those rules of LANGUAGE.md that can be seen from outside. */
public final class LanguageTest {
    private static final String FACE = "cell(int,int) block(int,int) shut(int,boolean) land(int,int,int) landIs(int,int)"
        + " rate(int,int) airline(int) plane(int,int,int) as(int,int) planeIs(int,int) earn(int,int) coin(int)"
        + " owes(int,int) pay(int,int,int) end(int) feed(long,int) law(int,int) force(int,int) says(int,int,int,int)"
        + " file(int,int) fly(int,int) flightIs(int,int) row(int,int,int) miles(int,int,int,int) bill(int) right(int)"
        + " fee(int,int) beside(int,boolean) go(int) fuel(int) cheapest(int,int,int,int) gain(int,int,int,int)"
        + " voice(int,int,int) trace(int) sheet(int,int,int) put(int,int,int) move(int,int,int,int,int) image()"
        + " restore() told(int) found(int)";
    private static final Due due = new Due();

    public static void main(String[] args) throws Exception {
        face();
        int classes = 1;
        shape(SkyFees.class);
        for (Class<?> inner : SkyFees.class.getDeclaredClasses()) {
            classes++;
            due.is(inner + " is static", Modifier.isStatic(inner.getModifiers()) ? 1 : 0, 1);
            due.is(inner + " has none inside", inner.getDeclaredClasses().length, 0);
            shape(inner);
        }
        due.is("at most twelve classes", classes <= 12 ? 1 : 0, 1);
        words(Files.readString(Path.of("src/main/java/SkyFees.java")));
        due.end();
    }

    private static void face() {
        due.is("public and final", SkyFees.class.getModifiers() & (Modifier.PUBLIC | Modifier.FINAL),
            Modifier.PUBLIC | Modifier.FINAL);
        TreeSet<String> want = new TreeSet<>(java.util.List.of(FACE.split(" ")));
        TreeSet<String> got = new TreeSet<>();
        for (Method m : SkyFees.class.getDeclaredMethods()) {
            if (Modifier.isPublic(m.getModifiers())) {
                StringBuilder types = new StringBuilder();
                for (Class<?> type : m.getParameterTypes()) {
                    types.append(types.length() == 0 ? "" : ",").append(type.getName());
                }
                got.add(m.getName() + "(" + types + ")");
                due.is(m + " answers an int", m.getReturnType() == int.class ? 1 : 0, 1);
                due.is(m + " is of an object", Modifier.isStatic(m.getModifiers()) ? 1 : 0, 0);
            } else {
                due.is(m + " is private", Modifier.isPrivate(m.getModifiers()) ? 1 : 0, 1);
            }
        }
        due.is("the face is " + want + ", it has " + got, want.equals(got) ? 1 : 0, 1);
        for (Field f : SkyFees.class.getDeclaredFields()) {
            due.is(f + " is private", Modifier.isPrivate(f.getModifiers()) ? 1 : 0, 1);
        }
        Constructor<?>[] made = SkyFees.class.getDeclaredConstructors();
        due.is("one constructor", made.length, 1);
        due.is("it is public and takes nothing", Modifier.isPublic(made[0].getModifiers())
            && made[0].getParameterCount() == 0 ? 1 : 0, 1);
    }

    private static void shape(Class<?> c) {
        TreeSet<String> open = new TreeSet<>();
        for (Method m : SkyFees.class.getDeclaredMethods()) {
            if (Modifier.isPublic(m.getModifiers())) {
                open.add(m.getName());
            }
        }
        int fields = 0;
        for (Field f : c.getDeclaredFields()) {
            boolean fixed = Modifier.isStatic(f.getModifiers());
            fields += fixed ? 0 : 1;
            due.is(f + ": static ones are final", fixed && !Modifier.isFinal(f.getModifiers()) ? 1 : 0, 0);
        }
        due.is(c + " has at most twenty fields", fields <= 20 ? 1 : 0, 1);
        for (Executable e : c.getDeclaredMethods()) {
            due.is(e + " takes at most seven", e.getParameterCount() <= 7 ? 1 : 0, 1);
            due.is(e + " bears a name of its own",
                !Modifier.isPublic(e.getModifiers()) && open.contains(e.getName()) ? 1 : 0, 0);
        }
    }

    private static void words(String source) {
        String code = source.replaceAll("(?s)/\\*.*?\\*/", "").replaceAll("//[^\n]*", "").replaceAll("'[^']*'", "' '");
        String[] banned = {"throw", "throws", "try", "catch", "synchronized", "assert", "package", "native", "volatile",
            "double", "float", "random", "Random", "Object", "hashCode", "toString", "null", "var", "record", "Integer"};
        for (String word : banned) {
            due.is("no " + word, Pattern.compile("\\b" + word + "\\b").matcher(code).find() ? 1 : 0, 0);
        }
        for (String sign : new String[] {"->", "::", "Exact(", "\"", "@"}) {
            due.is("no " + sign, code.contains(sign) ? 1 : 0, 0);
        }
        Matcher uses = Pattern.compile("import ([^;]*);|\\b(Math|System|Arrays|Long)\\.(\\w+)").matcher(code);
        TreeSet<String> library = new TreeSet<>();
        while (uses.find()) {
            library.add(uses.group(1) != null ? uses.group(1) : uses.group(2) + "." + uses.group(3));
        }
        library.removeAll(java.util.List.of("java.util.Arrays", "Math.min", "Math.max", "System.arraycopy",
            "Arrays.fill"));
        due.is("of the library also " + library, library.size(), 0);
        due.is("a new one outside fields and constructors", newInMethods(code), 0);
    }

    /** All rows are made with the object: a call makes none. */
    private static int newInMethods(String code) {
        int n = 0;
        for (String line : code.split("\n")) {
            if (line.contains("new ") && !line.matches("    (    )?(private )?(final )?[\\w\\[\\]]+ \\w+ = new .*;")) {
                System.out.println(line);
                n++;
            }
        }
        return n;
    }
}
