import java.nio.file.Files;
import java.nio.file.Path;
import java.util.ArrayList;
import java.util.HashMap;
import java.util.List;
import java.util.Map;
import java.util.regex.Matcher;
import java.util.regex.Pattern;

/** README.md tells the truth: its examples answer so, and its tables name the face and the findings of the document. */
public final class ReadmeTest {
    private static final Pattern EXAMPLE = Pattern.compile("^(\\w+)\\.(\\w+\\(.*?\\)); +// (-?\\w+)", Pattern.MULTILINE);
    private static final Pattern MADE = Pattern.compile("^EndlessTug (\\w+) = new EndlessTug\\(\\);$", Pattern.MULTILINE);
    private static final Pattern ROW = Pattern.compile("^\\| `(\\w+)\\((.*?)\\)` +\\|.*\\|([^|]*)\\|$", Pattern.MULTILINE);
    private static final Pattern FACE = Pattern.compile("^    public \\w+ (\\w+)\\((.*)\\);$", Pattern.MULTILINE);
    private static final Pattern HEXADECIMAL = Pattern.compile("0x[0-9a-f]+");
    private static final Pattern NAMED_FINDING =
        Pattern.compile("(?<=[.] )(BEYOND|FULL|KIND|NONE|STATE|MISSING|SIZE)(?=[.:]| [(])");
    private static final Pattern FINDING_ROW = Pattern.compile("^\\| ([A-Z]+) +\\| (-\\d+) \\|", Pattern.MULTILINE);
    private static final Pattern TEXT = Pattern.compile("(?s)```text\n(.*?)\n```");

    private static String readme;
    private static String document;

    public static void main(String[] args) throws Exception {
        readme = Files.readString(Path.of("README.md"));
        document = Files.readString(Path.of("../shared/DOC.md"));
        examplesAnswerSo();
        textIsRight();
        findingsAreTheDocuments();
        tablesNameTheFace();
        testsAreNamed();
        Tug.end();
    }

    private static void examplesAnswerSo() {
        Tug.about = "an example of README.md";
        Map<String, Tug> objects = new HashMap<>();
        Matcher made = MADE.matcher(readme);
        while (made.find()) {
            objects.put(made.group(1), new Tug());
        }
        int examples = 0;
        Matcher line = EXAMPLE.matcher(readme);
        while (line.find()) {
            String call = HEXADECIMAL.matcher(line.group(2).replace(" ", ""))
                .replaceAll(found -> Integer.decode(found.group()).toString());
            objects.get(line.group(1)).due(call, Tug.number(line.group(3)));
            examples++;
        }
        Tug.due("examples", examples, 20);
    }

    private static void textIsRight() {
        Tug.about = "the text of README.md";
        Matcher text = TEXT.matcher(readme);
        Tug.due("is there", text.find() ? 1 : 0, 1);
        Tug.due("its items", new Tug().tell(text.group(1)), 6);
    }

    private static void findingsAreTheDocuments() {
        Tug.about = "the findings of README.md";
        int findings = 0;
        Matcher row = FINDING_ROW.matcher(readme);
        while (row.find()) {
            must(document.contains(row.group(2) + " " + row.group(1)), row.group());
            findings++;
        }
        Tug.due("findings", findings, 7);
    }

    private static void tablesNameTheFace() {
        Tug.about = "the tables of README.md";
        List<String> due = new ArrayList<>();
        Matcher face = FACE.matcher(document);
        while (face.find()) {
            String parameters = face.group(2).replaceAll("(int|long) ", "");
            due.add(face.group(1) + "(" + parameters + ") " + findingsOf(face.group(1)));
        }
        List<String> told = new ArrayList<>();
        Matcher row = ROW.matcher(readme);
        while (row.find()) {
            told.add(row.group(1) + "(" + row.group(2) + ") " + row.group(3).trim());
        }
        Tug.due("calls", told.size(), 37);
        for (int i = 0; i < Math.min(told.size(), due.size()); i++) {
            must(told.get(i).equals(due.get(i)), told.get(i) + ", due is " + due.get(i));
        }
    }

    private static String findingsOf(String call) {
        Matcher part = Pattern.compile("(?ms)^## Promise \\d+: " + call + "$(.*?)(?=^## |\\z)").matcher(document);
        List<String> findings = new ArrayList<>();
        Matcher named = NAMED_FINDING.matcher(part.find() ? part.group(1) : "");
        while (named.find()) {
            findings.add(named.group(1));
        }
        return String.join(", ", findings);
    }

    private static void testsAreNamed() throws Exception {
        Tug.about = "the tests of README.md";
        try (var files = Files.list(Path.of("src/test/java"))) {
            files.map(file -> file.getFileName().toString().replace(".java", ""))
                .forEach(test -> must(readme.contains("- `" + test + "`: "), test + " is not named"));
        }
    }

    private static void must(boolean holds, String what) {
        Tug.due(what, holds ? 1 : 0, 1);
    }
}
