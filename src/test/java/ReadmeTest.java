import java.io.IOException;
import java.lang.reflect.InvocationTargetException;
import java.lang.reflect.Method;
import java.lang.reflect.Modifier;
import java.nio.file.Files;
import java.nio.file.Path;
import java.util.ArrayList;
import java.util.List;
import java.util.Set;
import java.util.TreeSet;
import java.util.regex.Matcher;
import java.util.regex.Pattern;

/** README.md: its examples answer as it says, each call stands in one, and the tests that it names are there. */
final class ReadmeTest {
    private static final String NEW_DESK = "ModeDesk desk = new ModeDesk();";
    // A call, and behind // its answer, which a colon parts from what README.md says about it.
    private static final Pattern CALL = Pattern.compile("desk\\.(\\w+)\\((.*?)\\); +// (\\w+|-\\d+)(: .+)?");
    private static final Pattern NAMED_TEST = Pattern.compile("(?:(\\w+Test)\\.)?(\\w+)(\\.\\.)?");

    private static final Set<String> shownCalls = new TreeSet<>();

    public static void main(String[] args) throws IOException {
        List<String> readme = Files.readAllLines(Path.of("README.md"));
        examplesAnswerAsTheySay(readme);
        everyCallStandsInAnExample();
        namedTestsAreThere(readme);
        everyTestIsNamed(readme);
        Checks.finish("ReadmeTest");
    }

    private static void examplesAnswerAsTheySay(List<String> readme) {
        boolean inside = false;
        ModeDesk desk = null;
        for (String line : readme) {
            if (line.startsWith("```")) {
                inside = line.equals("```java");
                desk = null;
            } else if (inside && line.startsWith(NEW_DESK)) {
                desk = new ModeDesk();
            } else if (inside && !line.isEmpty()) {
                answersAsItSays(line, desk);
            }
        }
    }

    private static void answersAsItSays(String line, ModeDesk desk) {
        Matcher call = CALL.matcher(line);
        boolean understood = desk != null && call.matches();
        Checks.due("README.md, can be tested: " + line, understood, true);
        if (understood) {
            shownCalls.add(call.group(1));
            Checks.due("README.md: " + line, answer(desk, call.group(1), call.group(2)), call.group(3));
        }
    }

    private static String answer(ModeDesk desk, String name, String arguments) {
        List<Object> values = new ArrayList<>();
        List<Class<?>> types = new ArrayList<>();
        for (String argument : arguments.isEmpty() ? new String[0] : arguments.split(", ")) {
            boolean truth = argument.equals("true") || argument.equals("false");
            types.add(truth ? boolean.class : int.class);
            values.add(truth ? (Object) Boolean.valueOf(argument) : (Object) Integer.valueOf(argument));
        }
        try {
            Method method = ModeDesk.class.getMethod(name, types.toArray(new Class<?>[0]));
            return String.valueOf(method.invoke(desk, values.toArray()));
        } catch (InvocationTargetException e) {
            return e.getCause().getClass().getSimpleName();
        } catch (ReflectiveOperationException e) {
            return "no such call";
        }
    }

    private static void everyCallStandsInAnExample() {
        Set<String> face = new TreeSet<>();
        for (Method method : ModeDesk.class.getDeclaredMethods()) {
            if (Modifier.isPublic(method.getModifiers())) {
                face.add(method.getName());
            }
        }
        Checks.due("calls in README.md's examples", shownCalls, face);
    }

    /** The table's rows, "| a sentence | ATest.one, another, BTest.begins.. |". */
    private static void namedTestsAreThere(List<String> readme) {
        int rows = 0;
        for (String line : readme) {
            String[] cells = line.split("\\|");
            if (cells.length == 3 && cells[2].contains("Test.")) {
                rows++;
                namedTestsAreThere(cells[2].trim().split(", "));
            }
        }
        Checks.due("README.md has a table of tests", rows > 0, true);
    }

    private static void namedTestsAreThere(String[] names) {
        String test = "";
        for (String name : names) {
            Matcher named = NAMED_TEST.matcher(name);
            boolean understood = named.matches();
            if (understood && named.group(1) != null) {
                test = named.group(1);
            }
            boolean there = understood && hasMethod(test, named.group(2), named.group(3) != null);
            Checks.due("README.md names a test that is there, " + test + ": " + name, there, true);
        }
    }

    private static boolean hasMethod(String test, String name, boolean onlyItsBeginning) {
        try {
            for (Method method : Class.forName(test).getDeclaredMethods()) {
                String full = method.getName();
                if (onlyItsBeginning ? full.startsWith(name) : full.equals(name)) {
                    return true;
                }
            }
        } catch (ClassNotFoundException e) {
            return false;
        }
        return false;
    }

    private static void everyTestIsNamed(List<String> readme) throws IOException {
        try (var files = Files.newDirectoryStream(Path.of("src/test/java"), "*Test.java")) {
            for (Path file : files) {
                String test = file.getFileName().toString().replace(".java", "");
                boolean named = readme.stream().anyMatch(line -> line.startsWith("- " + test + ": "));
                Checks.due("README.md says what " + test + " is", named, true);
            }
        }
    }
}
