import java.io.IOException;
import java.lang.reflect.Constructor;
import java.lang.reflect.Field;
import java.lang.reflect.Method;
import java.lang.reflect.Modifier;
import java.nio.file.Files;
import java.nio.file.Path;
import java.util.Set;
import java.util.TreeSet;

/** The public face, promise 1, and those rules of LANGUAGE.md that can be seen from outside or in the text. */
public final class FaceTest {
    private static final Check CHECK = new Check();
    private static final String[] FACE = {
        "long sixty(long)", "int digit(long,int)", "int sight(long,int)", "long like(long,int,int)",
        "long put(long,long,int)", "int even(long)", "long turned(long)", "int list(int)", "int factor(long,int)",
        "long root(long,int)", "int times(long,long)", "int line(int,int)", "long sum(int)",
        "long slip(int,int,int,int)", "int blame(long,int)", "int tablet(int,int)", "int press(int,int,int,int)",
        "int cell(int,int,int)", "int copy(int,int,int,int,int)", "int reading(int,int)", "int sure(int,int,int)",
        "int fill(int)", "int odd(int)", "int triple(int,int,int)", "int join(int,int,int)",
        "long problem(int,int,int,int)", "int unit(int)", "int wipe()", "long units(long,int)", "int told(int)"
    };
    private static final String[] RULED_OUT = {
        "\nimport ", "\npackage ", "->", "::", "Exact(", "catch", "throw", "finally", "synchronized", "assert",
        "static {", "double", "float", "System."
    };

    public static void main(String[] args) throws IOException {
        constants();
        members();
        text();
        interfaceSays();
        newObject();
        CHECK.end();
    }

    private static void constants() {
        CHECK.due("NONE", SixtyTablet.NONE, -6);
        CHECK.due("UNKNOWN", SixtyTablet.UNKNOWN, -1);
        CHECK.due("OUTSIDE", SixtyTablet.OUTSIDE, -2);
        CHECK.due("STATE", SixtyTablet.STATE, -3);
        CHECK.due("FULL", SixtyTablet.FULL, -4);
        CHECK.due("NO", SixtyTablet.NO, -5);
        CHECK.due("LOST", SixtyTablet.LOST, -1000000000000000000L);
    }

    private static void members() {
        Set<String> open = new TreeSet<>();
        Set<String> openNames = new TreeSet<>();
        Set<String> privateNames = new TreeSet<>();
        for (Method m : SixtyTablet.class.getDeclaredMethods()) {
            if (m.isSynthetic()) {
                continue;
            }
            if (Modifier.isPrivate(m.getModifiers())) {
                privateNames.add(m.getName());
            } else {
                open.add(signature(m));
                openNames.add(m.getName());
            }
        }
        for (Class<?> inside : SixtyTablet.class.getDeclaredClasses()) {
            CHECK.due(inside + " is static", Modifier.isStatic(inside.getModifiers()) ? 1 : 0, 1);
            for (Method m : inside.getDeclaredMethods()) {
                privateNames.add(m.getName());
            }
        }
        CHECK.due("the methods are the face's", open.equals(new TreeSet<>(Set.of(FACE))) ? 1 : 0, 1);
        privateNames.retainAll(openNames);
        CHECK.due("names that inner methods share with the face " + privateNames, privateNames.size(), 0);
        int fields = 0;
        for (Field f : SixtyTablet.class.getDeclaredFields()) {
            if (!Modifier.isPrivate(f.getModifiers())) {
                fields++;
                CHECK.due(f + " is a public constant", f.getModifiers(), Modifier.PUBLIC | Modifier.STATIC | Modifier.FINAL);
                CHECK.due(f + " is an int, but LOST", f.getType() == (f.getName().equals("LOST") ? long.class : int.class) ? 1 : 0, 1);
            }
        }
        CHECK.due("constants seen from outside", fields, 7);
        Constructor<?>[] constructors = SixtyTablet.class.getDeclaredConstructors();
        CHECK.due("constructors", constructors.length, 1);
        CHECK.due("its parameters", constructors[0].getParameterCount(), 0);
        CHECK.due("it is public", constructors[0].getModifiers(), Modifier.PUBLIC);
        CHECK.due("the class is public and final", SixtyTablet.class.getModifiers(), Modifier.PUBLIC | Modifier.FINAL);
    }

    private static String signature(Method m) {
        StringBuilder text = new StringBuilder();
        text.append(m.getReturnType().getName()).append(' ').append(m.getName()).append('(');
        for (Class<?> type : m.getParameterTypes()) {
            text.append(text.charAt(text.length() - 1) == '(' ? "" : ",").append(type.getName());
        }
        CHECK.due(m.getName() + " is public, and of an object", m.getModifiers(), Modifier.PUBLIC);
        return text.append(')').toString();
    }

    private static void text() throws IOException {
        String source = "\n" + Files.readString(Path.of("src/main/java/SixtyTablet.java"));
        for (String word : RULED_OUT) {
            CHECK.due("the text holds '" + word.trim() + "'", source.contains(word) ? 1 : 0, 0);
        }
    }

    /** "Ahead of the calls .. the interface says: ---- 1 sixties.", and so on for the five parts. */
    private static void interfaceSays() throws IOException {
        String source = Files.readString(Path.of("src/main/java/SixtyTablet.java"));
        String[] said = {"1 sixties", "2 turned over", "3 workings", "4 tablets", "5 problems, units"};
        int[] firstOfPart = {0, 5, 10, 15, 25, FACE.length};
        for (int part = 0; part < said.length; part++) {
            int head = source.indexOf("    // ---- " + said[part] + "\n");
            CHECK.due("the interface says " + said[part], head > 0 ? 1 : 0, 1);
            int ahead = head;
            for (int call = firstOfPart[part]; call < firstOfPart[part + 1]; call++) {
                int at = source.indexOf("    public " + FACE[call].substring(0, FACE[call].indexOf('(') + 1));
                CHECK.due(FACE[call] + " stands in its order", at > ahead ? 1 : 0, 1);
                CHECK.due("what is said last ahead of " + FACE[call], source.lastIndexOf("// ---- ", at), head + 4);
                ahead = at;
            }
        }
    }

    /** "No WORKING, no UNITS; TABLETS of one ROW, all BROKEN." */
    private static void newObject() {
        SixtyTablet x = new SixtyTablet();
        CHECK.due("told(0)", x.told(0), 0);
        CHECK.due("told(1)", x.told(1), 0);
        CHECK.due("blame(1, -1)", x.blame(1, -1), SixtyTablet.STATE);
        CHECK.due("line(0, 0)", x.line(0, 0), SixtyTablet.UNKNOWN);
        CHECK.due("units(61, 0)", x.units(61, 0), 61);
        CHECK.due("units(61, 1)", x.units(61, 1), SixtyTablet.LOST - 1);
        for (int t = 0; t < 4; t++) {
            CHECK.due("rows of " + t, x.told(2 + t), 1);
            CHECK.due("broken cells of " + t, x.told(6 + t), 3);
            for (int column = 0; column < 3; column++) {
                CHECK.due("cell", x.cell(t, 0, column), 0);
            }
            CHECK.due("cell of row 1", x.cell(t, 1, 0), SixtyTablet.UNKNOWN);
        }
    }
}
