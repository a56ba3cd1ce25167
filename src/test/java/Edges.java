import java.io.IOException;
import java.nio.file.Files;
import java.nio.file.Path;

/**
 * What the tests of the document's edges share. Each of them says first which sentence of the
 * document it is a test of: the words must stand there, so that a test goes with its sentence.
 */
final class Edges {
    static final int NONE = -1;
    static final int NOTHING = -1000;
    static final int MAX = Integer.MAX_VALUE;
    static final int MIN = Integer.MIN_VALUE;
    /** Four posts, 30 to the right and 50 on, and nothing else. */
    static final String SMALL = "kind{posts 2 to 2,step 30 to 30,apart 50 to 50,slack 1}";
    /** Three posts and the place of a fourth: 20 to the right and 40 on. */
    static final String ELL = "kind{posts 2 to 2,step 20 to 20,apart 40 to 40,slack 0,miss 1}";

    private static String document = null;
    private static String sentence = "";
    private static int sentences = 0;
    private static int wrong = 0;

    private Edges() { }

    static void says(String words) {
        if (document == null) {
            document = read();
        }
        sentence = words;
        sentences++;
        if (!document.contains(words)) {
            wrong++;
            System.out.println("the document does not say: " + words);
        }
    }

    private static String read() {
        try {
            return Files.readString(Path.of("../shared/DOC.md"));
        } catch (IOException e) {
            return "";
        }
    }

    static void due(String call, int got, int want) {
        if (got != want) {
            wrong++;
            System.out.println("\"" + sentence + "\": " + call + " answered " + got + ", due is "
                    + want);
        }
    }

    /** A call that tells something: it answers this, and was refused by that (0: it was not). */
    static void told(String call, PostHouses x, int got, int want) {
        due(call, got, want);
        due("status() behind " + call, x.status(), Math.min(want, 0));
    }

    static void end() {
        System.out.println(wrong == 0 ? "the edges of " + sentences + " sentences hold"
                : wrong + " answers are not as due");
        if (wrong != 0) {
            System.exit(1);
        }
    }

    /** A book of HOLES of the first digger, 30 deep, known from the first week on. */
    static PostHouses book(int... places) {
        PostHouses x = new PostHouses();
        for (int i = 0; i + 1 < places.length; i += 2) {
            x.hole(0, places[i], places[i + 1], 30, 0);
        }
        return x;
    }

    /** Four posts of the small kind for each corner. */
    static void small(PostHouses x, int... corners) {
        for (int i = 0; i + 1 < corners.length; i += 2) {
            x.hole(0, corners[i], corners[i + 1], 30, 0);
            x.hole(0, corners[i] + 30, corners[i + 1], 30, 0);
            x.hole(0, corners[i], corners[i + 1] + 50, 30, 0);
            x.hole(0, corners[i] + 30, corners[i + 1] + 50, 30, 0);
        }
    }

    static PostHouses smalls(int... corners) {
        PostHouses x = new PostHouses();
        small(x, corners);
        kinds(x, SMALL);
        return x;
    }

    /** Three posts for each corner, so that thirteen such houses have room. */
    static PostHouses ells(int... corners) {
        PostHouses x = new PostHouses();
        for (int i = 0; i + 1 < corners.length; i += 2) {
            x.hole(0, corners[i], corners[i + 1], 30, 0);
            x.hole(0, corners[i] + 20, corners[i + 1], 30, 0);
            x.hole(0, corners[i], corners[i + 1] + 40, 30, 0);
        }
        kinds(x, ELL);
        return x;
    }

    static void feed(PostHouses x, String text) {
        for (int at = 0; at < text.length(); at += 20) {
            int[] n = new int[5];
            for (int i = 0; i < 20; i++) {
                n[i / 4] = n[i / 4] << 8 | (at + i < text.length() ? text.charAt(at + i) : 0);
            }
            x.feed(n[0], n[1], n[2], n[3], n[4]);
        }
        x.end(text.length());
    }

    /** Tells the KINDS of a text that is good. */
    static PostHouses kinds(PostHouses x, String text) {
        feed(x, text);
        int got = x.kinds();
        if (got < 0) {
            wrong++;
            System.out.println("\"" + sentence + "\": the text " + text + " has a fault at "
                    + x.fault());
        }
        return x;
    }
}
