import java.io.IOException;
import java.lang.reflect.Field;
import java.lang.reflect.Method;
import java.lang.reflect.Modifier;
import java.nio.file.Files;
import java.nio.file.Path;
import java.util.ArrayList;
import java.util.List;
import java.util.TreeMap;
import java.util.TreeSet;
import java.util.regex.Matcher;
import java.util.regex.Pattern;

/** What README.md shows of calls and answers is what the class answers. Run from the project's directory. */
public final class ReadmeTest {
    private static final Pattern CALL = Pattern.compile("keeper\\.(\\w+)\\((.*)\\); *// (-?\\d+|[A-Z]+)(: .*)?");
    private static final Pattern PUT = Pattern.compile("put\\(keeper, \"([^\"]*)\"\\);");
    private static final Pattern ROW = Pattern.compile("\\| `([A-Z]+)` \\| (-?\\d+) \\|[^|]+\\|([^|]+)\\|");

    private ReadmeTest() {
    }

    public static void main(String[] args) throws IOException, ReflectiveOperationException {
        List<String> readme = Files.readAllLines(Path.of("README.md"));
        List<List<String>> blocks = blocksOf(readme);
        is("blocks of Java", blocks.size() == 2);
        isHere(blocks.get(0));
        TreeMap<String, TreeSet<String>> answers = runAll(blocks.get(1));
        constants(readme, answers);
        Check.finish();
    }

    private static void is(String what, boolean holds) {
        Check.due(what, holds ? 1 : 0, 1);
    }

    private static List<List<String>> blocksOf(List<String> lines) {
        List<List<String>> blocks = new ArrayList<>();
        boolean isInside = false;
        for (String line : lines) {
            if (line.startsWith("```")) {
                isInside = line.equals("```java");
                if (isInside) {
                    blocks.add(new ArrayList<>());
                }
            } else if (isInside) {
                blocks.get(blocks.size() - 1).add(line.strip());
            }
        }
        return blocks;
    }

    /** The function that README.md shows is the one below, which the run uses. */
    private static void isHere(List<String> function) throws IOException {
        List<String> source = new ArrayList<>();
        for (String line : Files.readAllLines(Path.of("src/test/java/ReadmeTest.java"))) {
            source.add(line.strip());
        }
        int at = source.indexOf(function.get(0));
        is("put of README.md", at >= 0 && source.subList(at, at + function.size()).equals(function));
    }

    /** Puts a text on the tape, which is empty. */
    static void put(PackageKeeper keeper, String text) {
        for (int from = 0; from < text.length(); from += 20) {
            int[] five = new int[5];
            for (int i = 0; i < 20; i++) {
                int at = from + i;
                five[i / 4] = five[i / 4] << 8 | (at < text.length() ? text.charAt(at) & 255 : 0);
            }
            keeper.feed(five[0], five[1], five[2], five[3], five[4]);
        }
        keeper.end(text.length());
    }

    /** Makes the calls line by line; of each constant the calls that answered it. */
    private static TreeMap<String, TreeSet<String>> runAll(List<String> lines) throws ReflectiveOperationException {
        TreeMap<String, TreeSet<String>> answers = new TreeMap<>();
        TreeSet<String> shown = new TreeSet<>();
        is("first line", lines.get(0).equals("PackageKeeper keeper = new PackageKeeper();"));
        PackageKeeper keeper = new PackageKeeper();
        for (String line : lines.subList(1, lines.size())) {
            Matcher call = CALL.matcher(line);
            Matcher put = PUT.matcher(line);
            if (call.matches()) {
                shown.add(call.group(1));
                Check.due(line, answerOf(keeper, call.group(1), call.group(2)), valueOf(call.group(3)));
                answers.computeIfAbsent(call.group(3), name -> new TreeSet<>()).add(call.group(1));
            } else if (put.matches()) {
                Check.due("bytes before " + line, keeper.count(5), 0);
                put(keeper, put.group(1));
                Check.due("bytes behind " + line, keeper.count(5), put.group(1).length());
            } else {
                is("read: " + line, line.isEmpty() || line.startsWith("// "));
            }
        }
        for (Method method : PackageKeeper.class.getDeclaredMethods()) {
            String name = method.getName();
            is(name + " is shown", !Modifier.isPublic(method.getModifiers()) || shown.contains(name));
        }
        return answers;
    }

    private static int answerOf(PackageKeeper keeper, String name, String list) throws ReflectiveOperationException {
        String[] words = list.isEmpty() ? new String[0] : list.split(", ");
        Class<?>[] types = new Class<?>[words.length];
        Object[] values = new Object[words.length];
        for (int i = 0; i < words.length; i++) {
            types[i] = int.class;
            values[i] = Integer.decode(words[i]);
        }
        return (Integer) PackageKeeper.class.getMethod(name, types).invoke(keeper, values);
    }

    private static int valueOf(String answer) throws ReflectiveOperationException {
        boolean isName = Character.isUpperCase(answer.charAt(0));
        return isName ? PackageKeeper.class.getField(answer).getInt(null) : Integer.parseInt(answer);
    }

    /** The table has every constant with its value, and names each call that was seen to answer it. */
    private static void constants(List<String> readme, TreeMap<String, TreeSet<String>> answers)
            throws ReflectiveOperationException {
        TreeSet<String> names = new TreeSet<>();
        for (String line : readme) {
            Matcher row = ROW.matcher(line);
            if (row.matches()) {
                names.add(row.group(1));
                Check.due(row.group(1), Integer.parseInt(row.group(2)), valueOf(row.group(1)));
                for (String call : answers.getOrDefault(row.group(1), new TreeSet<>())) {
                    is(row.group(1) + " of " + call, row.group(3).contains("`" + call + "`"));
                }
            }
        }
        TreeSet<String> fields = new TreeSet<>();
        for (Field field : PackageKeeper.class.getFields()) {
            fields.add(field.getName());
        }
        is("constants of the table " + names, names.equals(fields));
    }
}
