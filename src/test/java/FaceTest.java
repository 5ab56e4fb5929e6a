import java.io.IOException;
import java.lang.reflect.Constructor;
import java.lang.reflect.Field;
import java.lang.reflect.Method;
import java.lang.reflect.Modifier;
import java.nio.file.Files;
import java.nio.file.Path;
import java.util.Arrays;
import java.util.TreeSet;
import java.util.regex.Matcher;
import java.util.regex.Pattern;

/** The public face as the document gives it, and rules of LANGUAGE.md that can be seen in the source. */
public final class FaceTest {
    private static final Check CHECK = new Check("FaceTest");
    private static final String SOURCE = "src/main/java/PlanningBench.java";
    private static final String[] FACE = {
        "boolean day 1", "int corner 2", "int plot 0", "int ring 2", "boolean near 3", "int feed 5", "int adopt 2", "int fault 0",
        "int plan 2", "int zone 3", "int judge 9", "int apply 7", "int object 2", "int decide 1", "int build 1", "int appeal 1",
        "int clash 1", "int told 2", "boolean raze 2", "boolean stands 3", "boolean hold 3", "int holder 3", "int count 1",
    };

    public static void main(String[] args) throws IOException {
        members();
        classesInside();
        wordsRuledOut();
        CHECK.finish();
    }

    private static void members() {
        TreeSet<String> found = new TreeSet<>();
        TreeSet<String> publicNames = new TreeSet<>();
        for (Method m : PlanningBench.class.getDeclaredMethods()) {
            if (!Modifier.isPrivate(m.getModifiers())) {
                found.add(m.getReturnType() + " " + m.getName() + " " + m.getParameterCount());
                publicNames.add(m.getName());
                CHECK.due(m.getName() + " is public", Modifier.isPublic(m.getModifiers()), true);
                CHECK.due(m.getName() + " takes ints", Arrays.stream(m.getParameterTypes()).allMatch(t -> t == int.class), true);
            }
        }
        CHECK.due("the methods are " + found, found.equals(new TreeSet<>(Arrays.asList(FACE))), true);
        for (Method m : PlanningBench.class.getDeclaredMethods()) {
            if (Modifier.isPrivate(m.getModifiers())) {
                CHECK.due("private " + m.getName() + " has a name of its own", publicNames.contains(m.getName()), false);
            }
        }
        for (Field f : PlanningBench.class.getDeclaredFields()) {
            CHECK.due(f.getName() + " is private, but for NONE", Modifier.isPrivate(f.getModifiers()), !f.getName().equals("NONE"));
        }
        Constructor<?>[] constructors = PlanningBench.class.getDeclaredConstructors();
        CHECK.due("constructors", constructors.length, 1);
        CHECK.due("its parameters", constructors[0].getParameterCount(), 0);
        CHECK.due("the class is public and final", PlanningBench.class.getModifiers(), Modifier.PUBLIC | Modifier.FINAL);
    }

    private static void classesInside() {
        TreeSet<String> faceNames = new TreeSet<>();
        for (String line : FACE) {
            faceNames.add(line.split(" ")[1]);
        }
        for (Class<?> c : PlanningBench.class.getDeclaredClasses()) {
            CHECK.due(c.getName() + " is static", Modifier.isStatic(c.getModifiers()), true);
            for (Method m : c.getDeclaredMethods()) {
                CHECK.due(c.getName() + "." + m.getName() + " has a name of its own", faceNames.contains(m.getName()), false);
                CHECK.due(c.getName() + "." + m.getName() + " takes seven at most", m.getParameterCount() <= 7, true);
            }
            for (Constructor<?> k : c.getDeclaredConstructors()) {
                CHECK.due(c.getName() + "() takes seven at most", k.getParameterCount() <= 7, true);
            }
        }
    }

    private static void wordsRuledOut() throws IOException {
        String source = Files.readString(Path.of(SOURCE)).replaceAll("(?s)/\\*.*?\\*/", "").replaceAll("//[^\n]*", "");
        String[] ruledOut = {
            "\\bthrows?\\b", "\\btry\\b", "\\bcatch\\b", "\\bsynchronized\\b", "\\bassert\\b", "->", "::", "\\bpackage\\b",
            "\\bprotected\\b", "\\bObject\\b", "Exact\\b", "\\bMap\\b", "\\bHashMap\\b", "\\bRandom\\b", "\\bSystem\\.(?!arraycopy)",
            "\\bimport (?!java\\.util\\.(ArrayList|List|Arrays|Iterator);)",
        };
        for (String word : ruledOut) {
            Matcher matcher = Pattern.compile(word).matcher(source);
            CHECK.due("the source holds " + word, matcher.find(), false);
        }
    }
}
