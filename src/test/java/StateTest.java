/** The sentences on settings, texts and undo, and those for cases of doubt, a test each where they name a boundary. */
public final class StateTest extends Checks {

    // ---- Settings ----

    private static void settings() {
        sentence("Setting 0 is the run speed, 1 to 10 and 5 at first; setting 1 the jump speed, 5 to 16 and 10 at first;"
                + " setting 2 the late time, 0 to 10 and 4 at first; setting 3 the buffer time, 1 to 10 and 3 at first.",
                () -> {
            int[][] due = {{5, 1, 10}, {10, 5, 16}, {4, 0, 10}, {3, 1, 10}};
            for (int i = 0; i < 4; i++) {
                int setting = i;
                int[] d = due[i];
                TileRunners t = new TileRunners();
                eq("at first", t.set(setting, d[1]), d[0]);
                fails(ARGUMENT, "too small", () -> t.set(setting, d[1] - 1));
                eq("the least one", t.set(setting, d[2]), d[1]);
                fails(ARGUMENT, "too great", () -> t.set(setting, d[2] + 1));
                eq("the greatest one", t.set(setting, d[0]), d[2]);
            }
        });
        sentence("There are four settings.", () -> {
            TileRunners t = new TileRunners();
            fails(INDEX, "setting 4", () -> t.set(4, 5));
            fails(INDEX, "setting -1", () -> t.set(-1, 5));
            eq("setting 3", t.set(3, 5), 3);
        });
    }

    // ---- Texts ----

    private static int tileFault(String text) {
        TileRunners t = new TileRunners();
        write(t, text);
        try {
            eq("tiles of " + text, t.readTiles(0, 5), text.length());
        } catch (IllegalArgumentException e) {
            yes("a fault of " + text, t.faultPosition() >= 0);
        }
        return t.faultPosition();
    }

    private static int inputFault(String text) {
        TileRunners t = withBody(100, 100, 8, 8, ".");
        write(t, text);
        try {
            t.play(0);
        } catch (IllegalArgumentException e) {
            yes("a fault of " + text, t.faultPosition() >= 0);
        }
        return t.faultPosition();
    }

    private static void texts() {
        sentence("The signs of the kinds of tiles 0 to 10 are . # = / \\ i > < ^ x o in this order.", () -> {
            TileRunners t = world(".#=/\\i><^xo");
            for (int kind = 0; kind <= 10; kind++) {
                eq("kind", t.tile(kind, 0), kind);
            }
            for (char c = 0; c < 256; c++) {
                eq("fault of the sign " + (int) c, tileFault("" + c), ".#=/\\i><^xo".indexOf(c) >= 0 ? -1 : 0);
            }
            eq("fault of a sign far beyond", tileFault("" + (char) (256 + '#')), 0);
        });
        sentence("A text of tiles consists of 1 to 24 signs.", () -> {
            eq("no sign", tileFault(""), 0);
            eq("one sign", tileFault("#"), -1);
            eq("24 signs", tileFault(FLAT), -1);
            eq("25 signs", tileFault(FLAT + "#"), 24);
            eq("40 signs", tileFault(FLAT + FLAT.substring(8)), 24);
        });
        sentence("A text of inputs consists of one or more commands: a letter, n for no key, l, r, j and d for left, right,"
                + " jump and down, L and R for left and right together with jump, D for down and jump, and then 1 or 2"
                + " digits, the number of ticks.", () -> commands());
        sentence("The fault position of a text is the index of its first character that cannot continue such a text, or the"
                + " length of the text if it ends too early.", () -> {
            eq("a first sign", tileFault("n#"), 0);
            eq("the first of two faults", tileFault("##n#n"), 2);
            eq("a fault ahead of a 25th sign", tileFault(FLAT.substring(1) + "n#"), 23);
            eq("a fault behind a 25th sign", tileFault(FLAT + "#n"), 24);
            eq("a text of tiles that ends too early", tileFault(""), 0);
            eq("a text of inputs that ends too early at once", inputFault(""), 0);
            eq("a text that ends with a letter", inputFault("r1l"), 3);
            eq("40 characters, of which the last is a letter", inputFault("r1".repeat(18) + "r12r"), 40);
            eq("the first of two faults", inputFault("r1x1x"), 2);
            eq("a letter behind a letter", inputFault("rr1"), 1);
            eq("a third digit", inputFault("r001"), 3);
            eq("a digit at first", inputFault("1r1"), 0);
        });
        sentence("The buffer is emptied, also if an exception is thrown; then no tile is set.", () -> {
            for (String text : new String[] {"", "#q", FLAT + "#", "o#"}) {
                TileRunners t = new TileRunners();
                write(t, text);
                fails(text.equals("o#") ? STATE : ARGUMENT, text, () -> t.readTiles(23, 0));
                eq("tiles", t.count(2), 0);
                checkEmptyBuffer(t);
            }
        });
        sentence("The buffer is emptied, also if an exception is thrown; then nothing is carried out.", () -> {
            for (String text : new String[] {"", "r1q", "r1l", "r1n99n99n2"}) {
                TileRunners t = withBody(100, 100, 8, 8, ".");
                write(t, text);
                fails(text.length() > 3 ? UNSUPPORTED : ARGUMENT, text, () -> t.play(0));
                eq("clock", t.clock(), 0);
                eq("input", t.body(0, 9), 0);
                checkEmptyBuffer(t);
            }
        });
    }

    private static void checkEmptyBuffer(TileRunners t) {
        for (int i = 0; i < 40; i++) {
            t.append('#');
        }
        fails(STATE, "a 41st character", () -> t.append('#'));
    }

    private static void commands() {
        String letters = "nlrjdLRD";
        int[] keys = {0, 1, 2, 4, 8, 5, 6, 12};
        for (char c = 0; c < 256; c++) {
            int letter = letters.indexOf(c);
            eq("fault of the letter " + (int) c, inputFault(c + "1"), letter >= 0 ? -1 : 0);
            eq("fault of the digit " + (int) c, inputFault("n" + c), c >= '0' && c <= '9' ? -1 : 1);
            if (letter >= 0) {
                TileRunners t = withBody(100, 100, 8, 8, ".");
                write(t, c + "09");
                eq("ticks", t.play(0), 9);
                eq("keys", t.body(0, 9), keys[letter]);
            }
        }
        eq("no command", inputFault(""), 0);
        eq("one command", inputFault("n0"), -1);
        eq("twenty commands", inputFault("n1".repeat(20)), -1);
        eq("no digit", inputFault("n"), 1);
        eq("two digits", inputFault("n10"), -1);
        eq("three digits", inputFault("n100"), 3);
        eq("a digit far beyond", inputFault("n" + (char) (256 + '1')), 1);
    }

    // ---- Undo ----

    private static void undo() {
        sentence("The world before each of the latest 12 ticks is kept, without the settings;", () -> {
            for (int ticks = 0; ticks <= 30; ticks++) {
                TileRunners t = withBody(100, 16, 8, 8, FLAT);
                t.press(0, RIGHT);
                int[] x = new int[ticks + 1];
                for (int n = 0; n < ticks; n++) {
                    x[n] = t.body(0, 0);
                    t.tick(1);
                }
                t.set(0, 9);
                int kept = Math.min(ticks, 12);
                for (int n = 1; n <= kept; n++) {
                    eq("clock", t.undo(), ticks - n);
                    eq("x", t.body(0, 0), x[ticks - n]);
                }
                forgotten(kept + " ticks of " + ticks, t);
                eq("setting", t.set(0, 9), 9);
            }
        });
        sentence("calls of setTile, readTiles, addBody, removeBody, addPlatform, removePlatform and restore forget them all.",
                () -> {
            for (int i = 0; i < FORGETTING.length; i++) {
                TileRunners t = withBody(100, 16, 8, 8, FLAT);
                t.addPlatform(100, 100, 16, 0, 0, 1);
                t.save();
                t.tick(3);
                forget(t, i);
                forgotten(FORGETTING[i], t);
                int clock = t.tick(2);
                eq("undo of a later tick", t.undo(), clock - 1);
                eq("undo of a later tick", t.undo(), clock - 2);
                forgotten("both", t);
            }
            TileRunners t = withBody(100, 16, 8, 8, FLAT);
            t.addPlatform(100, 100, 16, 0, 0, 1);
            t.tick(3);
            callsThatForgetNothing(t);
            eq("still kept", t.undo(), 2);
            eq("still kept", t.undo(), 1);
            eq("still kept", t.undo(), 0);
        });
        sentence("The text buffer and the fault position are not part of it.", () -> {
            TileRunners t = withBody(100, 16, 8, 8, FLAT);
            t.tick(1);
            write(t, "n1q");
            fails(ARGUMENT, "play", () -> t.play(0));
            write(t, "r0");
            t.undo();
            eq("fault", t.faultPosition(), 2);
            eq("the text stayed", t.play(0), 0);
            eq("and was carried out", t.body(0, 9), 2);
        });
        sentence("Undoes a tick.", () -> {
            TileRunners t = withBody(100, 100, 8, 8, "..ooo");
            t.addPlatform(50, 50, 20, 1, -1, 2);
            t.push(0, 3, 4);
            t.tick(1);
            t.undo();
            place("undone", t, 100, 100);
            speeds("undone", t, 3, 4);
            eq("statistic", t.statistic(0, 4), 0);
            eq("platform", t.platform(0, 0), 50);
            eq("ticks left", t.platform(0, 5), 2);
        });
        sentence("Throws `IllegalStateException` if no world is kept", () -> {
            TileRunners t = new TileRunners();
            forgotten("no tick", t);
            t.tick(1);
            t.undo();
            forgotten("the only tick", t);
            t.tick(100);
            for (int n = 99; n >= 88; n--) {
                eq("clock", t.undo(), n);
            }
            forgotten("twelve", t);
            eq("clock", t.clock(), 88);
            t.tick(5);
            t.undo();
            t.tick(3);
            for (int n = 94; n >= 88; n--) {
                eq("clock", t.undo(), n);
            }
            forgotten("the ticks that passed since", t);
        });
    }

    private static final String[] FORGETTING = {"setTile", "readTiles", "addBody", "removeBody", "addPlatform",
        "removePlatform", "restore"};

    private static void forget(TileRunners t, int call) {
        switch (call) {
            case 0 -> t.setTile(10, 10, 0);
            case 1 -> {
                write(t, ".");
                t.readTiles(10, 10);
            }
            case 2 -> t.addBody(200, 100, 8, 8);
            case 3 -> t.removeBody(0);
            case 4 -> t.addPlatform(200, 100, 16, 0, 0, 1);
            case 5 -> t.removePlatform(0);
            default -> t.restore();
        }
    }

    private static void callsThatForgetNothing(TileRunners t) {
        t.tile(0, 0);
        t.body(0, 0);
        t.press(0, 0);
        t.push(0, 0, 0);
        t.platform(0, 0);
        t.count(0);
        t.set(0, 6);
        t.tickUntilStanding(0, 1);
        t.clock();
        t.support(0);
        t.stands(0);
        t.below(0);
        t.isBlocked(0, 1, 1);
        t.clearance(0, 1);
        t.drop(0);
        t.look(0, 0);
        t.ray(0, 0, 0);
        t.predict(0, 6, 40, 0);
        t.apex(0, 6, 40);
        t.statistic(0, 0);
        t.meanMoves(0);
        t.append('n');
        t.append('0');
        t.play(0);
        t.faultPosition();
        t.save();
    }

    // ---- In doubt ----

    private static void doubts() {
        sentence("The row of tiles of a cell is that of all its columns.", () -> {
            TileRunners t = withBody(200, 100, 16, 8, ".");
            t.setTile(9, 2, 1);
            t.setTile(10, 2, 4);
            t.setTile(11, 2, 1);
            no("a firm tile in the column left of the foot", t.isBlocked(0, 152 - 200, -60));
            no("a firm tile in the column right of the foot", t.isBlocked(0, 167 - 200, -60));
            eq("nor do they support", t.addBody(152, 40, 16, 8), 1);
            eq("below", t.below(1), 0);
        });
        sentence("A tile of a cell above or below the rows is empty.", () -> {
            TileRunners t = withBody(200, 100, 12, 8, "....#/#");
            no("with the foot in the slope of the lowest row", t.isBlocked(0, 74 - 200, -100));
            yes("with the foot below it", t.isBlocked(0, 74 - 200, -101));
            t.setTile(5, 13, 3);
            no("above a slope of the highest row", t.isBlocked(0, 74 - 200, 124));
            eq("below the lowest row", t.drop(0), -1);
        });
        sentence("A body that drops is not carried;", () -> {
            TileRunners t = new TileRunners();
            t.addPlatform(60, 40, 40, 0, 0, 60);
            t.addPlatform(60, 39, 40, 2, 0, 60);
            t.addBody(70, 40, 8, 8);
            step(t, DOWN + JUMP);
            place("on the lower platform", t, 70, 39);
            t.push(0, 0, 0);
            t.tick(1);
            place("not carried by it", t, 70, 38);
        });
        sentence("each unit down of a platform is asked for support ahead of it, and the platform supports where it was.",
                () -> {
            TileRunners t = world("....=", ".");
            t.addPlatform(60, 32, 40, 0, -2, 60);
            t.addBody(66, 32, 8, 8);
            t.tick(1);
            place("no unit off a floor", t, 66, 32);
            TileRunners was = new TileRunners();
            was.addPlatform(60, 40, 16, 2, 0, 60);
            was.addPlatform(76, 39, 16, 0, 0, 60);
            was.addBody(74, 40, 4, 4);
            was.tick(1);
            place("off the end that it had, and a step down", was, 76, 39);
        });
        sentence("The drop counter is 8 at the end of the tick in which it became 8.", () -> {
            TileRunners t = withBody(36, 16, 8, 8, "..=");
            step(t, DOWN + JUMP);
            eq("drop counter", t.body(0, 6), 8);
            t.tick(1);
            eq("and 7 behind the next one", t.body(0, 6), 7);
        });
        sentence("A horizontal speed against the direction d changes towards d, also beyond the run speed.", () -> {
            int[][] due = {{-16, RIGHT, -14}, {16, LEFT, 14}, {-6, RIGHT, -4}, {6, LEFT, 4}};
            for (int[] d : due) {
                TileRunners t = withBody(100, 16, 8, 8, FLAT);
                t.push(0, d[0], 0);
                step(t, d[1]);
                eq("from " + d[0], t.body(0, 2), d[2]);
            }
        });
        sentence("Ice counts if it is all the ground, whatever else supports.", () -> {
            TileRunners t = withBody(44, 16, 8, 8, "..i=");
            t.addPlatform(40, 16, 16, 0, 0, 60);
            eq("support", t.support(0), 11);
            step(t, RIGHT);
            eq("speed", t.body(0, 2), 1);
            TileRunners none = withBody(44, 16, 8, 8, "..==");
            step(none, RIGHT);
            eq("no ice at all", none.body(0, 2), 2);
        });
        sentence("Firm cells below are those at the position at that step.", () -> {
            TileRunners t = withBody(36, 17, 8, 8, "..#^");
            t.push(0, 16, -1);
            t.tick(1);
            eq("a spring to which it ran in the same tick", t.body(0, 3), 16);
            TileRunners off = withBody(36, 17, 8, 8, "..^#");
            off.push(0, 16, -1);
            off.tick(1);
            eq("a spring from which it ran", off.body(0, 3), 0);
        });
        sentence("A body rises by its own from both kinds of jumps, and a jump whose key is not pressed any more is cut in the"
                + " same tick; gravity counts in the tick of the jump, too.", () -> {
            TileRunners ground = withBody(100, 18, 8, 8, FLAT);
            step(ground, JUMP);
            step(ground, 0);
            eq("landed", ground.body(0, 1), 16);
            step(ground, 0);
            speeds("cut in its first tick", ground, 0, 3);
            TileRunners wall = withBody(2, 100, 8, 8, ".");
            wall.push(0, -1, 0);
            step(wall, JUMP);
            step(wall, 0);
            eq("at the wall", wall.body(0, 0), 0);
            step(wall, 0);
            speeds("cut in its first tick off a wall", wall, 5, 3);
            TileRunners full = withBody(100, 16, 8, 8, FLAT);
            step(full, JUMP);
            place("the jump speed less 1", full, 100, 25);
        });
        sentence("With the vertical speed 0 and support there is no landing; a spring counts whatever stopped the fall.", () -> {
            TileRunners t = withBody(36, 16, 8, 8, "..^");
            t.tick(3);
            eq("landings", t.statistic(0, 3), 0);
            eq("speed", t.body(0, 3), 0);
            TileRunners mixed = withBody(44, 17, 8, 8, "..=^");
            mixed.addPlatform(40, 16, 16, 0, 0, 60);
            mixed.tick(2);
            eq("a floor, a platform and a spring", mixed.body(0, 3), 16);
        });
        sentence("Coins and spikes are asked at the end of an update; the input is kept also by a body that dies.", () -> {
            for (int kind = 9; kind <= 10; kind++) {
                TileRunners t = withBody(97, 82, 4, 4, ".");
                t.setTile(5, 5, kind);
                t.push(0, -16, 16);
                t.tick(1);
                place("through the tile and out of it", t, 81, 97);
                eq("coins", t.statistic(0, 0), 0);
                eq("deaths", t.statistic(0, 1), 0);
            }
            TileRunners t = withBody(60, 100, 8, 8, "x", ".", ".", ".", ".", ".", ".");
            t.setTile(3, 6, 9);
            step(t, JUMP);
            eq("dead", t.statistic(0, 1), 1);
            step(t, JUMP);
            eq("jump was pressed in the tick before", t.body(0, 5), 0);
            eq("input", t.body(0, 9), JUMP);
        });
        moreDoubts();
    }

    private static void moreDoubts() {
        sentence("The y at which a body was added does not count for statistic 6 once a tick has passed.", () -> {
            TileRunners t = withBody(100, 100, 8, 8, ".");
            eq("at first", t.statistic(0, 6), 100);
            t.tick(1);
            eq("behind a tick", t.statistic(0, 6), 99);
            t.push(0, 0, 6);
            t.tick(2);
            eq("the greatest", t.statistic(0, 6), 99 + 5 + 4);
            t.tick(20);
            eq("stays the greatest", t.statistic(0, 6), 99 + 5 + 4 + 3 + 2 + 1);
            TileRunners undone = withBody(100, 100, 8, 8, ".");
            undone.tick(1);
            undone.undo();
            eq("undone", undone.statistic(0, 6), 100);
        });
        sentence("A body that is blocked already hinders setTile, too.", () -> {
            TileRunners t = withBody(100, 48, 8, 8, "......=", "......x");
            t.tickUntilStanding(0, 40);
            t.setTile(6, 3, 1);
            t.press(0, DOWN + JUMP);
            t.tick(6);
            yes("blocked", t.isBlocked(0, 0, 0));
            fails(STATE, "a coin far away", () -> t.setTile(20, 10, 10));
            fails(STATE, "the same kind", () -> t.setTile(20, 10, 0));
            write(t, "o");
            fails(STATE, "a text of tiles", () -> t.readTiles(20, 10));
            eq("tile", t.tile(20, 10), 0);
            eq("but not its own tile", t.setTile(6, 3, 10), 1);
            eq("nor any other then", t.setTile(20, 10, 10), 0);
        });
        sentence("A body can be added that reaches beyond the rows.", () -> {
            TileRunners t = new TileRunners();
            eq("number", t.addBody(100, 223, 16, 28), 0);
            eq("at the highest cell", t.look(115, 223), 100);
            fails(STATE, "but not beyond the columns", () -> t.addBody(369, 223, 16, 28));
        });
        sentence("Undoing brings inputs and speeds back as they were ahead of the tick, and the ticks of meanMoves.", () -> {
            TileRunners t = withBody(100, 16, 8, 8, FLAT);
            step(t, RIGHT);
            t.press(0, LEFT);
            t.push(0, 9, 1);
            t.tick(1);
            t.press(0, DOWN);
            t.push(0, 0, 0);
            t.undo();
            eq("input", t.body(0, 9), LEFT);
            speeds("ahead of the tick", t, 9, 1);
            yes("two moves in one tick", t.meanMoves(0) == 2f);
            t.undo();
            eq("input", t.body(0, 9), RIGHT);
            speeds("ahead of the first tick", t, 0, 0);
            fails(ARITHMETIC, "no tick", () -> t.meanMoves(0));
            step(t, JUMP);
            t.undo();
            t.tick(1);
            eq("jump was not pressed in the tick before", t.statistic(0, 2), 1);
        });
        sentence("Of a text of tiles, a 25th sign is a fault, whatever columns are left; a text of inputs with more than 200"
                + " ticks has no fault.", () -> {
            for (int column = 0; column < 24; column++) {
                TileRunners t = new TileRunners();
                int from = column;
                write(t, FLAT + "#");
                fails(ARGUMENT, "25 signs", () -> t.readTiles(from, 0));
                eq("fault", t.faultPosition(), 24);
            }
            TileRunners t = withBody(100, 100, 8, 8, ".");
            write(t, "q");
            fails(ARGUMENT, "a fault", () -> t.play(0));
            write(t, "n99n99n3");
            fails(UNSUPPORTED, "201 ticks", () -> t.play(0));
            eq("no fault", t.faultPosition(), -1);
        });
    }

    // ---- The whole ----

    private static void manyCalls() {
        sentence("An object is used for at most 512 calls after it has been made;", () -> {
            TileRunners t = new TileRunners();
            for (int i = 0; i < 4; i++) {
                t.addPlatform(100 * i, 60, 64, i - 2, 2 - i, 60);
                t.addBody(100 * i, 60, 16, 28);
            }
            for (int call = 9; call <= 512; call++) {
                eq("clock", t.tick(100), 100 * (call - 8));
            }
            TileRunners climber = withBody(0, 0, 4, 4, ".");
            for (int round = 1; round <= 100; round++) {
                write(climber, "L9l2");
                eq("ticks", climber.play(0), 11);
            }
            place("up the left side", climber, 0, 100 * 44);
            eq("jumps", climber.statistic(0, 2), 100);
            eq("a way down that ends in the deep", climber.drop(0), -1);
            eq("a way to the right", climber.clearance(0, 1), 380);
        });
    }

    public static void main(String[] args) {
        settings();
        texts();
        undo();
        doubts();
        manyCalls();
        finish("the boundaries of the state hold");
    }
}
