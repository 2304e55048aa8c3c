import java.io.IOException;
import java.nio.file.Files;
import java.nio.file.Path;
import java.util.regex.Matcher;
import java.util.regex.Pattern;

/**
 * The sentences of the document and what their tests found. Each test is given the words that it is for; they must
 * stand in the document so, and at the end no word from its first line to its last promise may be left without a test.
 * Where the document is not at hand, the tests run all the same, and that is said.
 */
final class Sentences {
    private static final Path DOCUMENT = Path.of("../shared/DOC.md");
    // headings, what the document is about, the calls' own lines and drawn lines promise nothing; FaceTest has the face
    private static final Pattern NO_PROMISE = Pattern.compile("# QuaternionNet ## What it is A bench for .*? an image\\."
        + "|## The public face ```java .*? ```|## \\w+( \\d+: \\w+( \\w+ \\w+)?)? |`\\w+ ?\\w+\\([^`]*`:|```(text)?"
        + "|======== \\d?|SO THAT NOTHING IS READ TWO WAYS\\.|Details\\.");

    private final Checks checks;
    private final String text;
    private final boolean[] given;
    private final boolean isHere;
    private String now = "";

    Sentences(Checks checks) throws IOException {
        this.checks = checks;
        isHere = Files.exists(DOCUMENT);
        if (!isHere) System.out.println("there is no " + DOCUMENT + ": what it says word by word is not looked at");
        String all = isHere ? Files.readString(DOCUMENT).replaceAll("\\s+", " ") : "## Terms ## Not promised";
        text = all.substring(0, all.indexOf("## Not promised"));
        given = new boolean[text.length()];
        Matcher matcher = NO_PROMISE.matcher(text);
        while (matcher.find()) give(matcher.start(), matcher.end());
    }

    private void give(int from, int to) {
        for (int i = from; i < to; i++) given[i] = true;
    }

    /** The test of a sentence ahead of the document's Terms. */
    void opening(String sentence, Runnable test) {
        run(sentence, 0, text.indexOf("## Terms "), test);
    }

    /** The test of a sentence of the document's Terms. */
    void term(String sentence, Runnable test) {
        run(sentence, text.indexOf("## Terms "), text.indexOf("## Promise 1:"), test);
    }

    /** The test of a sentence of a promise. */
    void promise(int number, String sentence, Runnable test) {
        int from = text.indexOf("## Promise " + number + ":");
        int to = text.indexOf("## Promise " + (number + 1) + ":");
        run(sentence, from, to < 0 ? text.length() : to, test);
    }

    private void run(String sentence, int from, int to, Runnable test) {
        int at = text.indexOf(sentence, from);
        while (at >= 0 && given[at] && text.indexOf(sentence, at + 1) >= 0) at = text.indexOf(sentence, at + 1);
        now = sentence;
        if (isHere) due("the document says so", at >= from && at + sentence.length() <= to ? 1 : 0, 1);
        if (at >= 0) give(at, at + sentence.length());
        int before = checks.made();
        test.run();
        due("it is tested", checks.made() > before ? 1 : 0, 1);
    }

    void due(String call, long got, long want) {
        checks.due("\"" + now + "\": " + call, got, want);
    }

    /** No word may be left without a test. */
    void end() {
        now = "the whole document";
        StringBuilder left = new StringBuilder();
        for (int i = 0; i < given.length; i++) left.append(given[i] ? '|' : text.charAt(i));
        for (String piece : left.toString().split("\\|+")) {
            if (!piece.isBlank()) due("no test is given this: " + piece, 0, 1);
        }
        checks.end();
    }
}
