import java.io.IOException;
import java.nio.charset.StandardCharsets;
import java.nio.file.Files;
import java.nio.file.Paths;
import java.util.function.IntToLongFunction;

/**
 * Checks that stand under a sentence of the document. A sentence must stand there word for word, once in its
 * part (a promise's number; 0 is all ahead of them), and must have a check of its own.
 */
final class Doc {
    static final int NONE = -1, BAD = -2, NOT = -3, FULL = -4;
    static final int NULL = -11, INDEX = -12, CAST = -13, STORE = -14, SIZE = -15;
    static final int LEAST = Integer.MIN_VALUE;
    static final int MOST = Integer.MAX_VALUE;
    static final long LONG_BAD = Long.MIN_VALUE + 2;
    static final String TWO = "k00000;k99999";
    static final String EIGHT = "k00000;k11111;k22222;k33333;k44444;k55555;k66666;k77777";
    static final String EVERYBODY = "p0;p1;p2;p3;p4;p5;p6;p7";

    private static final int PROMISES = 34;
    private static final String[] PARTS = parts();
    private static final boolean[][] SAID = new boolean[PARTS.length][];

    private static int part = 0;
    private static String sentence = "";
    private static int sentences = 0;
    private static int checks = 0;
    private static int checksOfSentence = 1;
    private static int wrong = 0;

    private Doc() {
    }

    private static String[] parts() {
        String all;
        try {
            all = new String(Files.readAllBytes(Paths.get("../shared/DOC.md")), StandardCharsets.UTF_8);
        } catch (IOException e) {
            throw new IllegalStateException("no document", e);
        }
        String flat = all.replaceAll("(?s)```java.*?```", " ").replaceAll("```(text)?", " ")
                .replaceAll("======== [2-4]", " ").replaceAll("\\s+", " ");
        String[] parts = new String[PROMISES + 1];
        parts[0] = between(flat, "======== 1 ", "## The public face") + between(flat, "## Terms ", "Ahead of the calls `type`");
        for (int p = 1; p <= PROMISES; p++) {
            String next = p < PROMISES ? "## Promise " + (p + 1) + ":" : "## Not promised";
            String whole = between(flat, "## Promise " + p + ":", next);
            parts[p] = whole.substring(whole.indexOf("`: ") + 3);
        }
        return parts;
    }

    private static String between(String all, String from, String to) {
        int start = all.indexOf(from) + from.length();
        return all.substring(start, all.indexOf(to, start));
    }

    /** The checks behind this, up to the next, are the test of these words. */
    static void says(int ofPart, String words) {
        endSentence();
        part = ofPart;
        sentence = words;
        sentences++;
        checksOfSentence = 0;
        if (SAID[part] == null) {
            SAID[part] = new boolean[PARTS[part].length()];
        }
        int at = PARTS[part].indexOf(words);
        if (at < 0 || PARTS[part].indexOf(words, at + 1) >= 0) {
            fault("does not stand in the document, or not once");
            return;
        }
        for (int i = at; i < at + words.length(); i++) {
            SAID[part][i] = true;
        }
    }

    private static void endSentence() {
        if (checksOfSentence == 0) {
            fault("has no check");
        }
    }

    private static void fault(String text) {
        wrong++;
        System.out.println("[" + part + "] \"" + sentence + "\": " + text);
    }

    static void due(String what, long got, long want) {
        due(what, Long.toString(got), Long.toString(want));
    }

    static void due(String what, String got, String want) {
        checks++;
        checksOfSentence++;
        if (!got.equals(want)) {
            fault(what + " answered " + got + ", due is " + want);
        }
    }

    static void dueNot(String what, long got, long wrongAnswer) {
        checks++;
        checksOfSentence++;
        if (got == wrongAnswer) {
            fault(what + " answered " + got);
        }
    }

    /** A number from .. to: BAD just outside it and at the ends of the ints, and not BAD at either end of it. */
    static void edges(String what, int from, int to, IntToLongFunction call) {
        edges(what, from, to, BAD, call);
    }

    static void edges(String what, int from, int to, long refusal, IntToLongFunction call) {
        for (int outside : new int[] {from - 1, to + 1, LEAST, MOST}) {
            due(what + " " + outside, call.applyAsLong(outside), refusal);
        }
        dueNot(what + " " + from, call.applyAsLong(from), refusal);
        dueNot(what + " " + to, call.applyAsLong(to), refusal);
    }

    /** No call may throw: what did is told with the sentence that it was checked for. */
    static void threw(RuntimeException e) {
        fault("threw " + e);
        e.printStackTrace(System.out);
    }

    /** Fails where words of the document stand under no check. */
    static void end() {
        endSentence();
        sentence = "";
        for (part = 0; part < PARTS.length; part++) {
            StringBuilder left = new StringBuilder();
            for (int i = 0; i < PARTS[part].length(); i++) {
                boolean said = SAID[part] != null && SAID[part][i];
                left.append(said ? ' ' : PARTS[part].charAt(i));
            }
            String words = left.toString().replaceAll("[\\s.,;:()]+", " ").trim();
            if (!words.isEmpty()) {
                fault("no test of: " + words);
            }
        }
        System.out.println(sentences + " sentences, " + checks + " checks, " + wrong + " wrong");
        if (wrong != 0) {
            System.exit(1);
        }
    }

    static AccentShop shop(String accents, String people, int... hirings) {
        AccentShop x = new AccentShop();
        typeAll(x, 0, accents);
        typeAll(x, 1, people);
        hireAll(x, hirings);
        return x;
    }

    static void typeAll(AccentShop x, int text, String bytes) {
        for (int i = 0; i < bytes.length(); i++) {
            x.type(text, bytes.charAt(i));
        }
    }

    static void hireAll(AccentShop x, int... hirings) {
        for (int i = 0; i + 2 < hirings.length; i += 3) {
            x.hire(hirings[i], hirings[i + 1], hirings[i + 2]);
        }
    }

    static void layAll(AccentShop x, int s, int form, int... items) {
        for (int i = 0; i < items.length; i++) {
            x.lay(s, form, i, items[i]);
        }
    }

    static String items(AccentShop x, int s, int form, int n) {
        StringBuilder b = new StringBuilder();
        for (int i = 0; i < n; i++) {
            b.append(i == 0 ? "" : " ").append(x.get(s, form, i));
        }
        return b.toString();
    }

    static String speech(AccentShop x, int day, int person) {
        StringBuilder b = new StringBuilder();
        for (int s = 0; s < 5; s++) {
            b.append(x.at(day, person, s));
        }
        return b.toString();
    }

    static String marks(AccentShop x, int day, int accent) {
        StringBuilder b = new StringBuilder();
        for (int s = 0; s < 5; s++) {
            b.append(x.drawer(day, accent, s));
        }
        return b.toString();
    }

    /** The same hirings and one more behind them. */
    static int[] and(int[] hirings, int... more) {
        int[] all = java.util.Arrays.copyOf(hirings, hirings.length + more.length);
        System.arraycopy(more, 0, all, hirings.length, more.length);
        return all;
    }
}
