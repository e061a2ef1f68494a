import java.lang.reflect.Method;
import java.nio.file.Files;
import java.nio.file.Path;
import java.util.Set;
import java.util.TreeSet;
import java.util.regex.Matcher;
import java.util.regex.Pattern;

/** README.md: each call of its example has the answer told behind it, and its table names all calls. */
public final class Readme extends Check {
    private static final Pattern ROW = Pattern.compile("^street\\.(\\w+)\\((.*?)\\);\\s+// (-?\\d+|true|false)\\b.*$");
    private static final Pattern NAME = Pattern.compile("`(\\w+)`");

    public static void main(String[] args) throws Exception {
        LadderStreet street = new LadderStreet();
        Set<String> named = new TreeSet<>();
        int made = 0;
        about("README.md");
        for (String line : Files.readAllLines(Path.of("README.md"))) {
            if (line.startsWith("street.")) {
                Matcher row = ROW.matcher(line);
                due("a row with its answer: " + line, row.matches(), true);
                due(line, answer(street, row.group(1), row.group(2)), row.group(3));
                made++;
            }
            if (line.startsWith("| ")) {
                NAME.matcher(line).results().forEach(name -> named.add(name.group(1)));
            }
        }
        due("the example has rows", made > 0, true);
        due("the calls in the table", named.toString(), calls().toString());
        finish();
    }

    private static String answer(LadderStreet street, String call, String told) throws Exception {
        String[] parts = told.isEmpty() ? new String[0] : told.split(", ");
        for (Method m : LadderStreet.class.getMethods()) {
            if (m.getName().equals(call) && m.getParameterCount() == parts.length) {
                Object[] arguments = new Object[parts.length];
                for (int i = 0; i < parts.length; i++) {
                    boolean isFlag = m.getParameterTypes()[i] == boolean.class;
                    arguments[i] = isFlag ? (Object) Boolean.valueOf(parts[i]) : (Object) Integer.decode(parts[i]);
                }
                return String.valueOf(m.invoke(street, arguments));
            }
        }
        return "no such call";
    }

    private static Set<String> calls() {
        Set<String> names = new TreeSet<>();
        for (Method m : LadderStreet.class.getDeclaredMethods()) {
            if (java.lang.reflect.Modifier.isPublic(m.getModifiers())) {
                names.add(m.getName());
            }
        }
        return names;
    }
}
