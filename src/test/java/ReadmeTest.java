import java.io.ByteArrayOutputStream;
import java.io.IOException;
import java.io.PrintStream;
import java.lang.reflect.Method;
import java.nio.charset.StandardCharsets;
import java.nio.file.Files;
import java.nio.file.Path;
import java.util.Set;
import java.util.TreeMap;
import java.util.TreeSet;
import java.util.regex.Matcher;
import java.util.regex.Pattern;

/** What README.md says: the example and what it prints, which calls answer which refusals, which tests there are. */
public final class ReadmeTest {
    private static final Checks CHECKS = new Checks("ReadmeTest");
    private static final Path TESTS = Path.of("src/test/java");
    private static final long BAD = -1, NOT = -2, FULL = -3, STATE = -5, VOID = Long.MIN_VALUE;

    private final String text;
    // for each refusal, as the table's first column tells it: the calls that were seen to answer it
    private final TreeMap<String, Set<String>> seen = new TreeMap<>();

    private ReadmeTest() throws IOException {
        text = Files.readString(Path.of("README.md"));
    }

    private static void holds(String what, boolean is) {
        CHECKS.due(what, is ? 1 : 0, 1);
    }

    private String block(String language) {
        Matcher matcher = Pattern.compile("(?s)```" + language + "\n(.*?)```").matcher(text);
        return matcher.find() ? matcher.group(1) : "";
    }

    // ---- the example

    private void example() throws IOException {
        holds("the example is src/test/java/Example.java", block("java").equals(Files.readString(TESTS.resolve("Example.java"))));
        PrintStream out = System.out;
        ByteArrayOutputStream printed = new ByteArrayOutputStream();
        System.setOut(new PrintStream(printed, true, StandardCharsets.UTF_8));
        Example.main(new String[0]);
        System.setOut(out);
        String told = printed.toString(StandardCharsets.UTF_8).replace("\r\n", "\n");
        holds("the example prints what is told of it, and not this: " + told, block("text").equals(told));
    }

    // ---- the refusals

    private void answers(String refusal, String call, long got, long want) {
        CHECKS.due(call + " as " + refusal, got, want);
        seen.computeIfAbsent(refusal, key -> new TreeSet<>()).add(call);
    }

    private void bad(String call, long got) {
        answers("`BAD`, -1", call, got, BAD);
    }

    private void none(String call, long got) {
        answers("`NOT`, -2", call, got, NOT);
    }

    private void state(String call, long got) {
        answers("`STATE`, -5", call, got, STATE);
    }

    private void empty(String call, long got) {
        answers("`VOID`, the least long", call, got, VOID);
    }

    private void badOnes() {
        QuaternionNet x = new QuaternionNet();
        bad("put", x.put(0, 10000, 0, 0, 0));
        bad("times", x.times(0, 0, 6));
        bad("sum", x.sum(0, 0, 0, 2));
        bad("flip", x.flip(6));
        bad("prime", x.prime(7));
        bad("modulus", x.modulus(13));
        bad("node", x.node(24, 0));
        bad("nodeOf", x.nodeOf(-1));
        bad("to", x.to(0, 6));
        bad("far", x.far(24, 0));
        bad("many", x.many(-2));
        bad("counted", x.counted(5));
        bad("way", x.way(24, 0));
        bad("apart", x.apart(0, -2));
        bad("walk", x.walk(6));
        bad("ends", x.ends(3));
        bad("meets", x.meets(3));
        bad("product", x.product(6, 0));
        bad("film", x.film(0, 24));
        bad("note", x.note(6));
        bad("strike", x.strike(6));
        bad("feed", x.feed(31));
        bad("read", x.read(6));
        bad("why", x.why(-1, 0));
        bad("row", x.row(0, 41));
        bad("set", x.set(3, 0, 0));
        bad("count", x.count(10));
    }

    private void emptyOnes() {
        QuaternionNet x = new QuaternionNet();
        empty("part", x.part(0, 4));
        empty("norm", x.norm(6));
        empty("step", x.step(6, 0));
        empty("walks", x.walks(13, 0));
        empty("bound", x.bound(3));
        empty("book", x.book(0, 0));
        empty("get", x.get(0, 0));
    }

    private void noneOnes() {
        QuaternionNet x = new QuaternionNet();
        x.prime(13);
        x.put(0, 1, 1, 0, 0);
        x.put(1, 1, 0, 0, 0);
        x.row(0, 0);
        none("node", x.node(0, 4));
        none("nodeOf", x.nodeOf(0));
        none("way", x.way(0, 0));
        none("apart", x.apart(1, 0));
        none("meets", x.meets(0));
        none("strike", x.strike(0));
        none("read", Checks.read(x, "g14", 0));
        none("why", x.why(1, 0));
    }

    private void stateOnes() {
        QuaternionNet x = new QuaternionNet();
        x.put(0, 9999, 9999, 9999, 9999);
        state("times", x.times(0, 0, 0));
        state("sum", x.sum(0, 0, 0, 0));
        state("modulus", x.modulus(5));
        state("nodeOf", x.nodeOf(0));
        state("apart", x.apart(0, 0));
        state("back", x.back());
        x.row(0, 40);
        state("product", x.product(0, 0));
        state("read", Checks.read(x, "r0+r0", 1));
        state("restore", x.restore());
        x.prime(13);
        state("counted", x.counted(3));
        x.modulus(5);
        state("prime", x.prime(5));
    }

    private void otherOnes() {
        QuaternionNet x = new QuaternionNet();
        for (String call : new String[] {"ends", "meets", "product", "set"}) {
            answers("-11", call, call.equals("ends") ? x.ends(0) : call.equals("meets") ? x.meets(0)
                : call.equals("product") ? x.product(0, 0) : x.set(0, 0, 0), -11);
        }
        x.row(0, 1);
        answers("-13", "set", x.set(0, 1, 0), -13);
        answers("-14", "row", x.row(0, -2), -14);
        answers("-100 less a place", "read", Checks.read(x, "[1,2x", 0), -104);
        for (int a = 1; a <= 8; a++) {
            x.put(0, a, 0, 0, 0);
            if (a < 8) x.note(0);
        }
        answers("`FULL`, -3", "note", x.note(0), FULL);
        for (int i = 0; i < 80; i++) x.feed('~');
        answers("`FULL`, -3", "feed", x.feed('~'), FULL);
    }

    /** The table tells of just those calls, and all calls are those that it tells of and the three behind it. */
    private void table() {
        TreeMap<String, Set<String>> told = new TreeMap<>();
        Set<String> all = new TreeSet<>(Set.of("ring", "wipe", "image"));
        Matcher matcher = Pattern.compile("\n\\| ([`\\-][^|]*\\d[^|]*|`VOID`[^|]*) \\|[^|]*\\| ([^|]*) \\|").matcher(text);
        while (matcher.find()) {
            Set<String> calls = new TreeSet<>(Set.of(matcher.group(2).split(" ")));
            told.put(matcher.group(1), calls);
            all.addAll(calls);
        }
        for (String refusal : seen.keySet()) {
            holds(refusal + " is told of " + told.get(refusal) + ", but is answered by " + seen.get(refusal),
                seen.get(refusal).equals(told.get(refusal)));
        }
        holds("the refusals told: " + told.keySet(), told.keySet().equals(seen.keySet()));
        Set<String> face = new TreeSet<>();
        for (Method method : QuaternionNet.class.getMethods()) {
            if (method.getDeclaringClass() == QuaternionNet.class) face.add(method.getName());
        }
        holds("each call is told of: " + all, all.equals(face));
        for (String call : Set.of("ring", "wipe", "image")) holds(call + " is told of", text.contains("`" + call + "`"));
    }

    // ---- the tests

    private void tests() throws IOException {
        holds(".ci/run is told of", text.contains(".ci/run") && Files.exists(Path.of(".ci/run")));
        try (var files = Files.list(TESTS)) {
            for (Path file : files.toList()) {
                String name = file.getFileName().toString().replace(".java", "");
                if (name.endsWith("Test") || name.endsWith("Bounds") && !name.equals("Bounds")) {
                    holds(name + " is told of", text.contains("`" + name + "`"));
                }
            }
        }
    }

    public static void main(String[] args) throws IOException {
        ReadmeTest test = new ReadmeTest();
        test.example();
        test.badOnes();
        test.emptyOnes();
        test.noneOnes();
        test.stateOnes();
        test.otherOnes();
        test.table();
        test.tests();
        CHECKS.end();
    }
}
