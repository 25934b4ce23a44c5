import java.io.IOException;
import java.nio.file.Files;
import java.nio.file.Path;
import java.util.Arrays;
import java.util.HashMap;
import java.util.Map;
import java.util.NoSuchElementException;
import java.util.function.Supplier;
import java.util.function.ToIntFunction;
import java.util.regex.Matcher;
import java.util.regex.Pattern;

/**
 * Tests of single sentences: each says which promise and which sentence of the document it is of. At the
 * end the sentences are looked up in the document, and what no test is of is told.
 */
final class Edge {
    static final int NONE = WivesQuarrels.NONE;

    private static final Path DOCUMENT = Path.of("..", "shared", "DOC.md");
    private static final int TERMS = 0;
    private static final Map<Integer, String> SECTIONS = new HashMap<>();
    private static final Map<Integer, boolean[]> COVERED = new HashMap<>();

    private static String current = "";
    private static int sentences = 0;
    private static int looked = 0;
    private static int lookedBefore = 0;
    private static int wrong = 0;

    private Edge() {
    }

    // ---- sentences

    /** A test of a sentence under "Promise n". */
    static void promise(int promise, String sentence, Runnable test) {
        run(promise, promise, sentence, test);
    }

    /** A test of a sentence under "Terms", which a promise keeps. */
    static void term(int promise, String sentence, Runnable test) {
        run(TERMS, promise, sentence, test);
    }

    /** A sentence under "Terms" that names no boundary, and says just how others are to be read. */
    static void plainTerm(String sentence) {
        cover(TERMS, sentence);
    }

    private static void run(int section, int promise, String sentence, Runnable test) {
        current = "promise " + promise + ", \"" + sentence + "\"";
        sentences++;
        lookedBefore = looked;
        cover(section, sentence);
        try {
            test.run();
        } catch (RuntimeException e) {
            fail("threw " + e);
        }
        if (looked == lookedBefore) {
            fail("looks at nothing");
        }
    }

    private static void fail(String what) {
        wrong++;
        System.out.println(current + ": " + what);
    }

    // ---- answers

    static void is(String call, int got, int due) {
        looked++;
        if (got != due) {
            fail(call + " answered " + got + ", due is " + due);
        }
    }

    static void is(String call, boolean got, boolean due) {
        is(call, got ? 1 : 0, due ? 1 : 0);
    }

    static void missing(Runnable... calls) {
        throwsEach(NoSuchElementException.class, calls);
    }

    static void illegal(Runnable... calls) {
        throwsEach(IllegalArgumentException.class, calls);
    }

    private static void throwsEach(Class<?> due, Runnable... calls) {
        for (int i = 0; i < calls.length; i++) {
            Class<?> got = null;
            try {
                calls[i].run();
            } catch (RuntimeException e) {
                got = e.getClass();
            }
            looked++;
            if (got != due) {
                fail("call " + (i + 1) + " of " + calls.length + " threw " + got + ", due is " + due);
            }
        }
    }

    /** A call that is refused: NONE, that STATUS is one more, and all else is as it was. */
    static void refused(int status, Supplier<WivesQuarrels> made, String call, ToIntFunction<WivesQuarrels> done) {
        WivesQuarrels x = made.get();
        int[] before = state(x);
        is(call, done.applyAsInt(x), NONE);
        before[11 + status]++;
        same(call, x, before);
    }

    /** A call that throws (or asks) and leaves all as it was. */
    static void same(String call, WivesQuarrels x, int[] before) {
        is(call + " leaves what it should", Arrays.equals(before, state(x)), true);
    }

    /** All that can be seen of an object, count() first, but what is worked out from it (TABLES, ASKED). */
    static int[] state(WivesQuarrels x) {
        int people = x.count(0);
        int[] state = new int[15 + 7 * people + 3 * people * people];
        int at = 0;
        for (int what = 0; what <= 13; what++) {
            state[at++] = what == 6 || what == 7 ? 0 : x.count(what);
        }
        state[at++] = x.fault();
        for (int p = 0; p < people; p++) {
            for (int what = 0; what <= 6; what++) {
                state[at++] = x.person(p, what);
            }
            for (int other = 0; other < p; other++) {
                for (int what = 0; what <= 2; what++) {
                    state[at++] = x.quarrel(p, other, what);
                }
            }
        }
        return state;
    }

    // ---- towns

    static WivesQuarrels of(String text) {
        WivesQuarrels x = new WivesQuarrels();
        is("town of '" + text + "'", Check.town(x, text), 0);
        return x;
    }

    /** A text, its FAULT (0: none) and the place of it. */
    static void text(String text, int fault, int place) {
        WivesQuarrels x = new WivesQuarrels();
        is("town of '" + text + "'", Check.town(x, text), fault);
        is("fault of '" + text + "'", x.fault(), place);
        is("STATUS 0 of '" + text + "'", x.count(11), fault == 0 ? 0 : 1);
    }

    static void good(String text) {
        text(text, 0, NONE);
    }

    /** Each of 8 people has a quarrel with each other one. */
    static String allAgainstAll(String heat, String word) {
        StringBuilder b = new StringBuilder("person 1 1;".repeat(8));
        for (int a = 0; a < 8; a++) {
            for (int c = a + 1; c < 8; c++) {
                b.append("quarrel ").append(c).append(' ').append(a).append(' ').append(heat).append(' ');
                b.append(word).append(';');
            }
        }
        return b.toString();
    }

    // ---- the document

    private static void cover(int section, String sentence) {
        String text = section(section);
        if (text == null) {
            return;
        }
        int at = text.indexOf(sentence);
        if (at < 0 || text.indexOf(sentence, at + 1) >= 0) {
            fail("the sentence must stand once in the document, under " + title(section) + ": " + sentence);
            return;
        }
        Arrays.fill(COVERED.get(section), at, at + sentence.length(), true);
    }

    private static String title(int section) {
        return section == TERMS ? "Terms" : "Promise " + section;
    }

    /** What stands there, blanks made one; null if the document isn't here. */
    private static String section(int section) {
        if (SECTIONS.isEmpty() && Files.isReadable(DOCUMENT)) {
            readDocument();
        }
        return SECTIONS.get(section);
    }

    private static void readDocument() {
        String all;
        try {
            all = Files.readString(DOCUMENT);
        } catch (IOException e) {
            throw new AssertionError(e);
        }
        for (String part : all.split("\n## ")) {
            Matcher head = Pattern.compile("^(Terms|Promise (\\d+):[^\n]*)\n").matcher(part);
            if (head.find()) {
                String body = part.substring(head.end()).replaceAll("```(text)?", " ").replaceAll("\\s+", " ").trim();
                int section = head.group(2) == null ? TERMS : Integer.parseInt(head.group(2));
                body = section == TERMS ? body : body.replaceFirst("^`[^`]*`: ", "");
                SECTIONS.put(section, body);
                COVERED.put(section, new boolean[body.length()]);
            }
        }
    }

    static void endOfTerms() {
        tellUncovered(TERMS);
        end();
    }

    static void endOfPromises() {
        for (int promise = 1; promise <= 42; promise++) {
            tellUncovered(promise);
        }
        end();
    }

    /** Words that are in no sentence of a test (a sign or two between sentences, or "==== 2.", may be). */
    private static void tellUncovered(int section) {
        String text = section(section);
        if (text == null) {
            System.out.println(DOCUMENT + " isn't here: the sentences aren't looked up");
            return;
        }
        boolean[] covered = COVERED.get(section);
        StringBuilder left = new StringBuilder();
        for (int i = 0; i <= text.length(); i++) {
            if (i < text.length() && !covered[i]) {
                left.append(text.charAt(i));
                continue;
            }
            if (left.toString().matches(".*[A-Za-z].*")) {
                current = title(section);
                fail("no test is of \"" + left.toString().trim() + "\"");
            }
            left.setLength(0);
        }
    }

    private static void end() {
        System.out.println(sentences + " sentences, " + looked + " answers, " + wrong + " not as due");
        if (wrong != 0) {
            System.exit(1);
        }
    }
}
