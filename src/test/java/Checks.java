import java.io.IOException;
import java.nio.charset.StandardCharsets;
import java.nio.file.Files;
import java.nio.file.Path;

/** What the tests of the project share: counting wrong answers, and texts for THE TAPE. */
final class Checks {
    private static final Path DOCUMENT = Path.of("../shared/DOC.md");
    private static int wrong = 0;
    private static String sentence = "";
    private static String document = "";

    private Checks() {
    }

    static void due(String call, long got, long want) {
        if (got != want) {
            wrong++;
            System.out.println(sentence + call + " answered " + got + ", due is " + want);
        }
    }

    /** The checks that follow hold this sentence, which the document is to have word by word. */
    static void sentence(String words) {
        sentence = "";
        due("the document says: " + words, document().contains(words), true);
        sentence = "[" + words + "] ";
    }

    private static String document() {
        if (document.isEmpty()) {
            try {
                document = Files.readString(DOCUMENT).replaceAll("\\s+", " ");
            } catch (IOException e) {
                document = "there is no " + DOCUMENT;
            }
        }
        return document;
    }

    static void due(String call, boolean got, boolean want) {
        due(call, got ? 1 : 0, want ? 1 : 0);
    }

    /** Something is wrong that isn't an answer of the class. */
    static void fail(String what) {
        wrong++;
        System.out.println(sentence + what);
    }

    /** A call that is refused (NONE) with this TROUBLE. */
    static void refused(SledHouse x, String call, int got, int trouble) {
        due(call, got, SledHouse.NONE);
        due(call + ": trouble()", x.trouble(), trouble);
    }

    static void refused(SledHouse x, String call, boolean got, int trouble) {
        due(call, got, false);
        due(call + ": trouble()", x.trouble(), trouble);
    }

    static void granted(SledHouse x, String call, int got, int want) {
        due(call, got, want);
        due(call + ": trouble()", x.trouble(), 0);
    }

    static void granted(SledHouse x, String call, boolean got) {
        due(call, got, true);
        due(call + ": trouble()", x.trouble(), 0);
    }

    static int wrongSoFar() {
        return wrong;
    }

    static void end(String test) {
        System.out.println(test + ": " + (wrong == 0 ? "all answers are as due" : wrong + " wrong"));
        if (wrong != 0) {
            System.exit(1);
        }
    }

    /** Lays a text on THE TAPE, with blanks behind it. */
    static void tape(SledHouse x, String text) {
        byte[] bytes = text.getBytes(StandardCharsets.ISO_8859_1);
        for (int i = 0; i < bytes.length; i += 20) {
            x.feed(word(bytes, i), word(bytes, i + 4), word(bytes, i + 8), word(bytes, i + 12), word(bytes, i + 16));
        }
    }

    private static int word(byte[] bytes, int from) {
        int word = 0;
        for (int i = from; i < from + 4; i++) {
            word = word << 8 | (i < bytes.length ? bytes[i] & 255 : 32);
        }
        return word;
    }

    static int plan(SledHouse x, String text) {
        tape(x, text);
        return x.plan(text.length());
    }

    static int laws(SledHouse x, String text) {
        tape(x, text);
        return x.laws(text.length());
    }

    /** An object with these LEGS (length, hardness, ..) and PLANS. */
    static SledHouse house(int[] legs, String... plans) {
        SledHouse x = new SledHouse();
        for (int i = 0; i + 1 < legs.length; i += 2) {
            due("leg", x.leg(legs[i], legs[i + 1]), i / 2 + 1);
        }
        for (int i = 0; i < plans.length; i++) {
            due("plan " + plans[i], plan(x, plans[i]), i);
        }
        return x;
    }

    static int[] legs(int... numbers) {
        return numbers;
    }

    /** The answers of about() from 0 to 12. */
    static void about(SledHouse x, int team, int... want) {
        for (int i = 0; i < want.length; i++) {
            due("about(" + team + ", " + i + ")", x.about(team, i), want[i]);
        }
    }
}
