import java.io.IOException;
import java.lang.reflect.Constructor;
import java.lang.reflect.Field;
import java.lang.reflect.Member;
import java.lang.reflect.Method;
import java.lang.reflect.Modifier;
import java.nio.file.Files;
import java.nio.file.Path;
import java.util.ArrayList;
import java.util.Arrays;
import java.util.List;
import java.util.TreeSet;
import java.util.regex.Matcher;
import java.util.regex.Pattern;

/** The face of the class, and what LANGUAGE.md rules out that can be seen from outside. */
public final class FaceTest {
    private static final String FACE = "write1 wipe0 fault0 lay0 person2 thing2 pays1 sell1 buyBack1 pass1 undo0 "
        + "behind2 heard1 sum3 take2 when2 pair1 swap1 see3 forget0 kinds1 sure5 fine2 whims5 year3 keep0 back0 count1";
    private static final String[] RULED_OUT = {"\\bimport\\b", "\\bpackage\\b", "\\bcatch\\b", "\\bfinally\\b",
        "\\bthrow\\b", "\\bthrows\\b", "->", "::", "\\bsynchronized\\b", "\\bassert\\b", "\\w+Exact\\b", "\\bprotected\\b",
        "\\bThread\\b", "\\bequals\\b", "\\bhashCode\\b", "\\btoString\\b"};

    private static void face(Check check) {
        check.begin("the face");
        int mods = ForgoneShop.class.getModifiers();
        if (!Modifier.isPublic(mods) || !Modifier.isFinal(mods)) {
            check.fail("the class is not public and final");
        }
        TreeSet<String> wanted = new TreeSet<>(Arrays.asList(FACE.split(" ")));
        TreeSet<String> found = new TreeSet<>();
        for (Method m : ForgoneShop.class.getDeclaredMethods()) {
            if (!Modifier.isPrivate(m.getModifiers())) {
                found.add(m.getName() + m.getParameterCount());
                check.same("int of " + m.getName(), m.getReturnType() == int.class ? 1 : 0, 1);
                check.same("public " + m.getName(), Modifier.isPublic(m.getModifiers()) ? 1 : 0, 1);
            }
        }
        if (!found.equals(wanted)) {
            check.fail("methods are " + found + ", due are " + wanted);
        }
        TreeSet<String> fields = new TreeSet<>();
        for (Field f : ForgoneShop.class.getDeclaredFields()) {
            if (!Modifier.isPrivate(f.getModifiers())) {
                fields.add(f.getName());
            }
        }
        if (!fields.equals(new TreeSet<>(List.of("BAD", "NO", "FULL", "NONE")))) {
            check.fail("fields are " + fields);
        }
        Constructor<?>[] made = ForgoneShop.class.getDeclaredConstructors();
        check.same("constructors", made.length, 1);
        check.same("its parameters", made[0].getParameterCount(), 0);
        check.same("public", Modifier.isPublic(made[0].getModifiers()) ? 1 : 0, 1);
    }

    private static void constants(Check check) {
        check.begin("the constants");
        check.same("BAD", ForgoneShop.BAD, -1);
        check.same("NO", ForgoneShop.NO, -2);
        check.same("FULL", ForgoneShop.FULL, -3);
        check.same("NONE", ForgoneShop.NONE, -4);
    }

    private static List<Class<?>> allClasses() {
        List<Class<?>> all = new ArrayList<>();
        all.add(ForgoneShop.class);
        all.addAll(Arrays.asList(ForgoneShop.class.getDeclaredClasses()));
        return all;
    }

    private static void sizes(Check check) {
        check.begin("classes, fields, parameters");
        TreeSet<String> publicNames = new TreeSet<>();
        for (Method m : ForgoneShop.class.getMethods()) {
            publicNames.add(m.getName());
        }
        if (allClasses().size() > 12) {
            check.fail("too many classes");
        }
        for (Class<?> c : allClasses()) {
            int fields = 0;
            for (Field f : c.getDeclaredFields()) {
                fields += Modifier.isStatic(f.getModifiers()) ? 0 : 1;
                if (Modifier.isStatic(f.getModifiers()) && !Modifier.isFinal(f.getModifiers())) {
                    check.fail(f + " is static and not final");
                }
            }
            if (fields > 20) {
                check.fail(c + " has too many fields");
            }
            for (Method m : c.getDeclaredMethods()) {
                if (m.getParameterCount() > 7) {
                    check.fail(m + " takes too much");
                }
                if (publicNames.contains(m.getName()) && isHidden(m)) {
                    check.fail(m + " bears the name of a public one");
                }
            }
        }
    }

    private static boolean isHidden(Member m) {
        return Modifier.isPrivate(m.getModifiers()) || m.getDeclaringClass() != ForgoneShop.class;
    }

    private static String withoutComments(String source) {
        return source.replaceAll("(?s)/\\*.*?\\*/", "").replaceAll("//[^\n]*", "");
    }

    private static void words(Check check, String source) {
        check.begin("words that are ruled out");
        for (String word : RULED_OUT) {
            Matcher m = Pattern.compile(word).matcher(source);
            if (m.find()) {
                check.fail("has " + m.group());
            }
        }
    }

    /** Rows are read and changed in few places, each behind a look at the index. */
    private static void indices(Check check, String source) {
        check.begin("indices are looked at");
        List<String> lines = Arrays.asList(source.split("\n"));
        Pattern index = Pattern.compile("\\w\\[[^\\]]");
        for (int i = 0; i < lines.size(); i++) {
            String line = lines.get(i);
            String above = i > 0 ? lines.get(i - 1) : "";
            String far = i > 2 ? lines.get(i - 3) : "";
            boolean looked = (line + above + far).contains(".length");
            if (index.matcher(line).find() && !line.contains("new ") && !looked) {
                check.fail("line " + (i + 1) + " uses an index: " + line.trim());
            }
        }
    }

    public static void main(String[] args) throws IOException {
        Check check = new Check();
        face(check);
        constants(check);
        sizes(check);
        String source = Files.readString(Path.of(args[0]));
        words(check, withoutComments(source));
        indices(check, source);
        check.close();
    }
}
