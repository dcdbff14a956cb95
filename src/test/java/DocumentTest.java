import java.io.IOException;
import java.nio.file.Files;
import java.nio.file.Path;
import java.util.ArrayList;
import java.util.Arrays;
import java.util.List;
import java.util.regex.Matcher;
import java.util.regex.Pattern;

/**
 * Whether the tests follow the document: each edge's sentence stands where the edge says, no words of the
 * Terms and the promises are without an edge, and the class has the face as it is written there.
 */
public final class DocumentTest {
    private static final Due DUE = new Due("DocumentTest");
    /** What only leads up to a sentence that has an edge, or says it twice. */
    private static final List<String> LEADING = List.of("(hexadecimal 31). KINDS, each under the one told",
        "TO DRAW a number below n", "and of this", "BY BITS", "BY BEGINNINGS", "A DESCENT", "a SPLIT begins",
        "A PASS", "A question", "or", "The constants");

    private DocumentTest() {
    }

    public static void main(String[] args) throws IOException {
        Path path = Path.of("../shared/DOC.md");
        if (!Files.exists(path)) {
            System.out.println("DocumentTest: not looked at, there is no " + path);
            return;
        }
        String document = Files.readString(path);
        String source = Files.readString(Path.of("src/main/java/RollCall.java"));
        List<Part> parts = partsOf(document);
        DUE.is("six Terms, twenty-six promises, and the lines between", parts.size(), 34);
        for (Edge edge : EdgesTest.edges()) {
            quote(edge, parts);
        }
        for (Part part : parts) {
            part.lookForWordsLeft();
        }
        face(document, source);
        headings(document, source);
        DUE.end();
    }

    /** A part of the document with a name that edges bear, and which of its signs an edge has quoted. */
    private static final class Part {
        final String name;
        final String text;
        final boolean[] isQuoted;

        Part(String name, String text) {
            this.name = name;
            this.text = text.replaceAll("```(text|java)?", " ").replaceAll("\\s+", " ").trim();
            this.isQuoted = new boolean[this.text.length()];
        }

        boolean quote(String sentence) {
            int at = text.indexOf(sentence);
            boolean stands = at >= 0;
            while (at >= 0) {
                Arrays.fill(isQuoted, at, at + sentence.length(), true);
                at = text.indexOf(sentence, at + 1);
            }
            return stands;
        }

        void lookForWordsLeft() {
            StringBuilder left = new StringBuilder();
            for (int i = 0; i < text.length(); i++) {
                left.append(isQuoted[i] ? '\n' : text.charAt(i));
            }
            for (String piece : left.toString().split("\n+")) {
                String words = piece.replaceAll("^[\\s,;:.)]+|[\\s,;:.]+$", "");
                DUE.is(name + " without an edge: " + words, words.isEmpty() || LEADING.contains(words), true);
            }
        }
    }

    private static List<Part> partsOf(String document) {
        List<Part> parts = new ArrayList<>();
        parts.add(new Part("What it is", between(document, "An object is used", "; what later calls")));
        String terms = between(document, "## Terms", "A refused call");
        for (int i = 1; i <= 6; i++) {
            String end = i < 6 ? "\n" + (i + 1) + ". " : "";
            parts.add(new Part("Terms " + i, between(terms, "\n" + i + ". ", end).substring(4)));
        }
        parts.add(new Part("between", between(document, "A refused call", "Ahead of the calls")));
        Matcher promise = Pattern.compile("## Promise (\\d+): .*\\n\\n`[^`]*`: ([^\\n]*)").matcher(document);
        while (promise.find()) {
            parts.add(new Part("Promise " + promise.group(1), promise.group(2)));
        }
        return parts;
    }

    /** From a beginning on, to an end that is no more part of it, or to the end of all. */
    private static String between(String text, String beginning, String end) {
        int from = text.indexOf(beginning);
        if (from < 0) {
            DUE.fail("the document has no longer: " + beginning);
            return beginning;
        }
        int to = end.isEmpty() ? -1 : text.indexOf(end, from + beginning.length());
        return to < 0 ? text.substring(from) : text.substring(from, to);
    }

    private static void quote(Edge edge, List<Part> parts) {
        String where = edge.where().replaceAll(",.*", "");
        boolean isNamed = parts.stream().anyMatch(part -> part.name.equals(where));
        boolean stands = false;
        for (Part part : parts) {
            if (part.name.equals(where) || !isNamed && part.name.equals("between")) {
                stands = part.quote(edge.sentence()) || stands;
            }
        }
        DUE.is("it stands in the document, " + edge.name(), stands, true);
    }

    private static void face(String document, String source) {
        String face = between(document, "public final class RollCall {", "```");
        int from = source.indexOf("public final class RollCall {");
        for (String line : face.split("\n")) {
            String member = line.trim().replaceAll("\\);$", ") {");
            int at = source.indexOf(member, Math.max(0, from));
            DUE.is("the face has, in this order: " + member, from >= 0 && at >= from, true);
            from = at;
        }
    }

    private static void headings(String document, String source) {
        Matcher heading = Pattern.compile("Ahead of the calls (.*) the interface says: (.*)\\.\n").matcher(document);
        int number = 0;
        while (heading.find()) {
            String part = between(source, "// " + heading.group(2) + "\n", "// ----");
            for (String call : heading.group(1).split(", ")) {
                boolean stands = part.contains(" " + call.replace("`", "") + "(");
                DUE.is("behind " + heading.group(2) + " stands " + call, stands, true);
                number++;
            }
        }
        DUE.is("calls behind headings", number, 25);
    }
}
