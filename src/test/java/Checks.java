import java.io.IOException;
import java.nio.file.Files;
import java.nio.file.Path;
import java.util.ArrayList;
import java.util.List;

/** What the tests by hand have in common: counted checks, and worlds written as rows of tiles. */
abstract class Checks {
    static final Class<? extends Exception> INDEX = IndexOutOfBoundsException.class;
    static final Class<? extends Exception> ARGUMENT = IllegalArgumentException.class;
    static final Class<? extends Exception> STATE = IllegalStateException.class;
    static final Class<? extends Exception> ARITHMETIC = ArithmeticException.class;
    static final Class<? extends Exception> ELEMENT = java.util.NoSuchElementException.class;
    static final Class<? extends Exception> UNSUPPORTED = UnsupportedOperationException.class;
    static final String FLAT = "########################";

    static final int LEFT = 1;
    static final int RIGHT = 2;
    static final int JUMP = 4;
    static final int DOWN = 8;

    private static final Path DOCUMENT = Path.of("../shared/DOC.md");

    private static final List<String> QUOTES = new ArrayList<>();
    private static int wrong = 0;
    private static String label = "";

    interface Call {
        void run();
    }

    // ---- checks ----

    static void check(String name, Call call) {
        label = name;
        try {
            call.run();
        } catch (RuntimeException e) {
            wrong++;
            System.out.println(name + ": stopped by " + e);
        }
    }

    /** A check of one sentence; its words stand so in the document. */
    static void sentence(String words, Call call) {
        QUOTES.add(words);
        check("\"" + words + "\"", call);
    }

    static void report(String what) {
        System.out.println(label + ": " + what);
        wrong++;
    }

    static void eq(String what, long got, long due) {
        if (got != due) {
            report(what + " is " + got + ", due is " + due);
        }
    }

    static void yes(String what, boolean holds) {
        eq(what, holds ? 1 : 0, 1);
    }

    static void no(String what, boolean holds) {
        eq(what, holds ? 1 : 0, 0);
    }

    static void fails(Class<? extends Exception> due, String what, Call call) {
        String got = "nothing";
        try {
            call.run();
        } catch (RuntimeException e) {
            got = e.getClass().getSimpleName();
        }
        if (!got.equals(due.getSimpleName())) {
            report(what + " throws " + got + ", due is " + due.getSimpleName());
        }
    }

    /** Ends a test: each quoted sentence has to stand in the document, as far as that is at hand. */
    static void finish(String allIsWell) {
        if (Files.isReadable(DOCUMENT)) {
            checkQuotes();
        }
        System.out.println(wrong == 0 ? allIsWell : wrong + " answers are not as due");
        if (wrong != 0) {
            System.exit(1);
        }
    }

    private static void checkQuotes() {
        try {
            String document = Files.readString(DOCUMENT).replaceAll("\\s+", " ");
            for (String words : QUOTES) {
                label = "quotes";
                yes("in the document: " + words, document.contains(words));
            }
        } catch (IOException e) {
            report("the document cannot be read");
        }
    }

    // ---- worlds ----

    static void write(TileRunners t, String text) {
        for (int i = 0; i < text.length(); i++) {
            t.append(text.charAt(i));
        }
    }

    /** A world of rows of tiles, the highest one first. */
    static TileRunners world(String... rows) {
        TileRunners t = new TileRunners();
        for (int i = 0; i < rows.length; i++) {
            write(t, rows[i]);
            t.readTiles(0, rows.length - 1 - i);
        }
        return t;
    }

    /** A world with one body. */
    static TileRunners withBody(int x, int y, int width, int height, String... rows) {
        TileRunners t = world(rows);
        t.addBody(x, y, width, height);
        return t;
    }

    static void place(String what, TileRunners t, int x, int y) {
        eq(what + ": x", t.body(0, 0), x);
        eq(what + ": y", t.body(0, 1), y);
    }

    static void speeds(String what, TileRunners t, int horizontal, int vertical) {
        eq(what + ": horizontal speed", t.body(0, 2), horizontal);
        eq(what + ": vertical speed", t.body(0, 3), vertical);
    }

    /** Presses keys and lets one tick pass. */
    static void step(TileRunners t, int keys) {
        t.press(0, keys);
        t.tick(1);
    }

    /** Whether undo is refused, that is, whether the kept worlds are forgotten. */
    static void forgotten(String what, TileRunners t) {
        fails(STATE, "undo behind " + what, () -> t.undo());
    }
}
