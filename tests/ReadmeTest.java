import java.io.IOException;
import java.lang.reflect.Method;
import java.lang.reflect.Modifier;
import java.nio.file.Files;
import java.nio.file.Path;
import java.util.Arrays;
import java.util.TreeSet;
import java.util.regex.Matcher;
import java.util.regex.Pattern;

/** README.md as it stands: the answers in its lines of code, and that it tells every call. */
public final class ReadmeTest {
    private static final Pattern CODE = Pattern.compile("(?s)```java\n(.*?)```");
    private static final Pattern CALL = Pattern.compile("shop\\.(\\w+)\\(([-\\d, ]*)\\); +// (-?\\d+)(?:, ([A-Z]+))?:.*");
    private static final Pattern WRITTEN = Pattern.compile("for \\(char letter : \"(.*)\"\\.toCharArray\\(\\)\\) \\{");
    private static final Pattern FRAME = Pattern.compile("|ForgoneShop shop = new .*| +shop\\.write\\(letter\\);|\\}");
    private static final Pattern TOLD = Pattern.compile("`(\\w+)\\([\\w, ]*\\)`(?=.*\\|)");

    private static int answer(ForgoneShop shop, String name, String numbers) throws ReflectiveOperationException {
        Object[] given = Arrays.stream(numbers.split(", ")).filter(n -> !n.isEmpty()).map(Integer::valueOf).toArray();
        Class<?>[] kinds = new Class<?>[given.length];
        Arrays.fill(kinds, int.class);
        return (Integer) ForgoneShop.class.getMethod(name, kinds).invoke(shop, given);
    }

    private static int constant(String name) throws ReflectiveOperationException {
        return ForgoneShop.class.getField(name).getInt(null);
    }

    /** Runs one line: if it is a call, its answer is looked at. */
    private static boolean run(Check check, ForgoneShop shop, String line) throws ReflectiveOperationException {
        Matcher call = CALL.matcher(line);
        Matcher written = WRITTEN.matcher(line);
        if (call.matches()) {
            check.begin("README: " + line);
            check.same("it", answer(shop, call.group(1), call.group(2)), Integer.parseInt(call.group(3)));
            if (call.group(4) != null) {
                check.same("its constant", constant(call.group(4)), Integer.parseInt(call.group(3)));
            }
            return true;
        }
        if (written.matches()) {
            for (char letter : written.group(1).toCharArray()) {
                shop.write(letter);
            }
            return false;
        }
        if (!FRAME.matcher(line).matches()) {
            check.begin("README: " + line);
            check.fail("this line can not be run here");
        }
        return false;
    }

    private static void lines(Check check, String readme) throws ReflectiveOperationException {
        ForgoneShop shop = new ForgoneShop();
        int calls = 0;
        Matcher code = CODE.matcher(readme);
        while (code.find()) {
            for (String line : code.group(1).split("\n")) {
                calls += run(check, shop, line) ? 1 : 0;
            }
        }
        check.begin("README has lines of code");
        if (calls == 0) {
            check.fail("it has none");
        }
    }

    private static void everyCall(Check check, String readme) {
        check.begin("README tells every call");
        TreeSet<String> due = new TreeSet<>();
        for (Method m : ForgoneShop.class.getDeclaredMethods()) {
            if (Modifier.isPublic(m.getModifiers())) {
                due.add(m.getName());
            }
        }
        TreeSet<String> told = new TreeSet<>();
        Matcher call = TOLD.matcher(readme);
        while (call.find()) {
            told.add(call.group(1));
        }
        if (!told.equals(due)) {
            check.fail("told are " + told + ", due are " + due);
        }
    }

    public static void main(String[] args) throws IOException, ReflectiveOperationException {
        Check check = new Check();
        String readme = Files.readString(Path.of(args[0]));
        lines(check, readme);
        everyCall(check, readme);
        check.close();
    }
}
