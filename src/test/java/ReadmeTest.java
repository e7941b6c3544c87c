import java.io.IOException;
import java.nio.file.Files;
import java.nio.file.Path;
import java.util.ArrayList;
import java.util.List;

/** README.md's example: its lines stand here too, and each answers what its comment begins with. */
public final class ReadmeTest {
    private static final String SOURCE = "src/test/java/ReadmeTest.java";
    private static final Check CHECK = new Check("README.md's example");

    private static void example() {
        // the example begins
        ArithmeticForms forms = new ArithmeticForms(31);
        int price = forms.value(1999, 2);
        int three = forms.value(3, 0);
        int part = forms.node(3, price, three);
        int total = forms.receiver(7, 2, 3);
        int fixed = forms.receiver(4, 1, 7);

        int good = forms.run(0, part, true);
        long held = forms.stored(total);
        boolean failed = forms.error(fixed);
        int what = forms.raised();

        int kept = forms.set(total, 1000);
        int divided = forms.run(4, three, true);
        long quotient = forms.stored(total);
        long remainder = forms.rest(total);

        long digits = forms.exact(part, 1);
        long exponent = forms.exact(part, 2);
        long first = forms.exact(part, 3);
        int wrong = forms.node(3, price, forms.value(0, 0));
        int raises = forms.raises(wrong);
        // the example ends
        CHECK.due("exact(wrong, 0) throws", Check.throwsArithmetic(forms, wrong, 0), true);
        dueAsToldFor(List.of(price, three, part, total, fixed, good, held, failed, what, kept, divided, quotient,
                remainder, digits, exponent, first, wrong, raises));
    }

    /** The answers of the example's lines in their order, but for the first line, which makes the object. */
    private static void dueAsToldFor(List<Object> answers) {
        List<String> told = new ArrayList<>();
        for (String line : linesBetween("README.md", "```java", "```")) {
            if (line.contains("=") && !line.contains("new ArithmeticForms")) {
                told.add(line);
            }
        }
        CHECK.due("how many lines answer", answers.size(), told.size());
        for (int i = 0; i < Math.min(answers.size(), told.size()); i++) {
            boolean asTold = told.get(i).contains("// " + answers.get(i) + ":");
            CHECK.due("\"" + told.get(i) + "\" answers " + answers.get(i), asTold, true);
        }
    }

    private static List<String> linesBetween(String file, String begin, String end) {
        List<String> found = new ArrayList<>();
        boolean inside = false;
        for (String line : lines(file)) {
            if (inside && line.strip().equals(end)) {
                return found;
            }
            if (inside) {
                found.add(line.strip());
            }
            inside = inside || line.strip().equals(begin);
        }
        return found;
    }

    private static List<String> lines(String file) {
        try {
            return Files.readAllLines(Path.of(file));
        } catch (IOException e) {
            CHECK.due(file + " can be read", false, true);
            return List.of();
        }
    }

    private static List<String> withoutComments(List<String> lines) {
        List<String> code = new ArrayList<>();
        for (String line : lines) {
            int comment = line.indexOf("//");
            code.add(comment < 0 ? line : line.substring(0, comment).strip());
        }
        return code;
    }

    public static void main(String[] args) {
        List<String> shown = withoutComments(linesBetween("README.md", "```java", "```"));
        List<String> tried = linesBetween(SOURCE, "// the example begins", "// the example ends");
        CHECK.due("README.md shows the lines that are tried here", shown.equals(tried), true);
        CHECK.due("there are such lines", tried.isEmpty(), false);
        example();
        CHECK.end();
    }
}
