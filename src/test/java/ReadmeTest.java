import java.io.File;
import java.util.ArrayList;
import java.util.Arrays;
import java.util.List;
import java.util.TreeSet;
import java.util.regex.Matcher;
import java.util.regex.Pattern;

/** README.md tells what is so: its examples, its tables of calls, exceptions and tests. */
public final class ReadmeTest {
    /** As in: roof.gable(1);  // true: it was none */
    private static final Pattern EXAMPLE =
            Pattern.compile("roof\\.((\\w+)\\([0-9, -]+\\)); +// ([^:]+)(: .+)?");
    /** As in: public boolean gable(int side) throws A, B; */
    private static final Pattern METHOD =
            Pattern.compile("public \\w+ (\\w+)\\((.+)\\) throws (.+);");

    private static final String README = Texts.read("README.md");
    private static final String[] LINES = README.split("\n");

    public static void main(String[] args) {
        examplesAnswerAsTold();
        tablesHaveEveryCall();
        everyExceptionInItsOrder();
        everyTestIsNamed();
        Checks.finish();
    }

    private static void examplesAnswerAsTold() {
        RafterPlaces roof = null;
        TreeSet<String> shown = new TreeSet<>();
        for (String line : LINES) {
            if (line.equals("RafterPlaces roof = new RafterPlaces();")) {
                roof = new RafterPlaces();
            }
            if (line.startsWith("roof.")) {
                Matcher example = EXAMPLE.matcher(line);
                boolean readable = example.matches();
                Checks.compare(line, readable ? Calls.outcome(roof, example.group(1)) : "nothing",
                        readable ? example.group(3) : "an example");
                shown.add(readable ? example.group(2) : line);
            }
        }
        TreeSet<String> all = new TreeSet<>();
        for (Matcher method : documentMethods()) {
            all.add(method.group(1));
        }
        Checks.compare("calls in the examples", shown.toString(), all.toString());
    }

    private static void tablesHaveEveryCall() {
        List<String> told = new ArrayList<>();
        for (String[] cells : rows()) {
            if (cells[1].endsWith(")`")) {
                told.add(cells[1]);
            }
        }
        List<String> all = new ArrayList<>();
        for (Matcher method : documentMethods()) {
            all.add("`" + method.group(1) + "("
                    + method.group(2).replaceAll("(int|long) ", "") + ")`");
        }
        Checks.compare("calls in the tables", told.toString(), all.toString());
    }

    private static void everyExceptionInItsOrder() {
        List<String> told = new ArrayList<>();
        String[] names = {};
        for (String[] cells : rows()) {
            if (cells[1].equals("call")) {
                names = cells;
            } else if (names.length > 2 && names[2].contains("Exception")
                    && cells[1].startsWith("`") && cells.length == names.length) {
                told.add(cells[1] + " " + exceptions(names, cells));
            }
        }
        List<String> all = new ArrayList<>();
        for (Matcher method : documentMethods()) {
            all.add("`" + method.group(1) + "` " + Arrays.asList(method.group(3).split(", ")));
        }
        Checks.compare("exceptions in the table", told.toString(), all.toString());
    }

    private static List<String> exceptions(String[] names, String[] cells) {
        List<String> told = new ArrayList<>();
        for (int i = 2; i < cells.length; i++) {
            if (!cells[i].isEmpty()) {
                told.add(names[i].replace("`", ""));
            }
        }
        return told;
    }

    private static void everyTestIsNamed() {
        String[] files = new File("src/test/java").list((folder, name) ->
                name.endsWith("Test.java"));
        Checks.due("tests are found", () -> files != null && files.length > 0, true);
        for (String file : files == null ? new String[0] : files) {
            String name = "`" + file.replace(".java", "") + "`";
            Checks.due("it names " + name, () -> README.contains(name), true);
        }
        Checks.due("it names what runs them", () -> README.contains("`.ci/run`"), true);
    }

    /** The cells of each row of a table; what stands before the first | is cell 0. */
    private static List<String[]> rows() {
        List<String[]> rows = new ArrayList<>();
        for (String line : LINES) {
            if (line.startsWith("| ")) {
                String[] cells = line.split("\\|");
                for (int i = 0; i < cells.length; i++) {
                    cells[i] = cells[i].strip();
                }
                rows.add(cells);
            }
        }
        return rows;
    }

    private static List<Matcher> documentMethods() {
        List<Matcher> methods = new ArrayList<>();
        for (String line : Texts.documentFace()) {
            Matcher method = METHOD.matcher(line);
            if (method.matches()) {
                methods.add(method);
            }
        }
        Checks.due("methods of the document", methods::size, 16);
        return methods;
    }
}
