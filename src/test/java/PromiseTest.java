/**
 * Each promise of the document by hand: ordinary inputs, the edges that the document names, and wrong inputs. The
 * answers that are due were worked out from the document, not taken from the program.
 */
public final class PromiseTest extends Checks {
    // ---- Promises 1 to 13 ----

    private static void newObject() {
        TileRunners t = new TileRunners();
        for (int column = 0; column < 24; column++) {
            for (int row = 0; row < 14; row++) {
                eq("tile", t.tile(column, row), 0);
            }
        }
        eq("bodies", t.count(0), 0);
        eq("platforms", t.count(1), 0);
        eq("clock", t.clock(), 0);
        eq("fault", t.faultPosition(), -1);
        eq("run speed", t.set(0, 1), 5);
        eq("jump speed", t.set(1, 5), 10);
        eq("late time", t.set(2, 0), 4);
        eq("buffer time", t.set(3, 1), 3);
        forgotten("nothing", t);
        fails(STATE, "restore", () -> t.restore());
        fails(ARGUMENT, "an empty text", () -> t.readTiles(0, 0));
        eq("fault of the empty text", t.faultPosition(), 0);
    }

    private static void setTile() {
        TileRunners t = new TileRunners();
        for (int kind = 0; kind <= 10; kind++) {
            eq("previous kind", t.setTile(5, 7, kind), Math.max(0, kind - 1));
            eq("kind", t.tile(5, 7), kind);
        }
        eq("corner", t.setTile(23, 13, 1), 0);
        eq("other corner", t.setTile(0, 0, 1), 0);
        int[][] outside = {{-1, 0}, {24, 0}, {0, -1}, {0, 14}};
        for (int[] tile : outside) {
            fails(INDEX, "no such tile", () -> t.setTile(tile[0], tile[1], 11));
        }
        fails(ARGUMENT, "kind 11", () -> t.setTile(0, 0, 11));
        fails(ARGUMENT, "kind -1", () -> t.setTile(0, 0, -1));
        t.addBody(40, 100, 4, 4);
        t.tick(1);
        fails(STATE, "a firm tile over a body", () -> t.setTile(2, 6, 8));
        eq("tile behind that", t.tile(2, 6), 0);
        eq("undo is still there", t.undo(), 0);
        for (int kind : new int[] {2, 3, 4, 9, 10}) {
            t.setTile(2, 6, kind);
        }
        t.setTile(2, 6, 0);
        t.tick(5);
        eq("it fell by 1 + 2 + 3 + 4 + 5", t.body(0, 1), 85);
        t.setTile(2, 6, 1);
        forgotten("setTile", t);
        t.setTile(2, 4, 0);
        t.setTile(2, 5, 0);
        t.tick(13);
        eq("it died", t.statistic(0, 1), 1);
        place("where it was added, though blocked", t, 40, 100);
        yes("blocked", t.isBlocked(0, 0, 0));
        fails(STATE, "a tile far from a body that is blocked already", () -> t.setTile(20, 10, 10));
        eq("setting it free", t.setTile(2, 6, 0), 1);
    }

    private static void tile() {
        TileRunners t = world(".#=/\\i><^xo.............");
        for (int kind = 0; kind <= 10; kind++) {
            eq("tile", t.tile(kind, 0), kind);
        }
        fails(INDEX, "column -1", () -> t.tile(-1, 0));
        fails(INDEX, "column 24", () -> t.tile(24, 0));
        fails(INDEX, "row -1", () -> t.tile(0, -1));
        fails(INDEX, "row 14", () -> t.tile(0, 14));
    }

    private static void addBody() {
        TileRunners t = world(FLAT);
        int[][] outOfRange = {{-1, 50, 8, 8}, {384, 50, 8, 8}, {50, -1, 8, 8}, {50, 224, 8, 8}, {50, 50, 3, 8},
            {50, 50, 17, 8}, {50, 50, 8, 3}, {50, 50, 8, 29}};
        for (int[] a : outOfRange) {
            fails(ARGUMENT, "out of range", () -> t.addBody(a[0], a[1], a[2], a[3]));
        }
        fails(STATE, "in the ground", () -> t.addBody(50, 15, 8, 8));
        fails(STATE, "beyond the right side", () -> t.addBody(381, 16, 4, 4));
        fails(STATE, "at the last column", () -> t.addBody(383, 16, 4, 4));
        eq("no body yet", t.count(0), 0);
        t.tick(1);
        eq("first", t.addBody(380, 16, 4, 4), 0);
        forgotten("addBody", t);
        eq("second, beyond the rows", t.addBody(0, 223, 16, 28), 1);
        eq("third", t.addBody(0, 16, 4, 4), 2);
        eq("fourth, in the same place", t.addBody(0, 16, 4, 4), 3);
        fails(STATE, "a fifth", () -> t.addBody(0, 16, 4, 4));
        fails(ARGUMENT, "a fifth out of range", () -> t.addBody(0, 16, 4, 3));
        eq("bodies", t.count(0), 4);
        int[] due = {0, 223, 0, 0, 0, 0, 0, 16, 28, 0};
        for (int what = 0; what < due.length; what++) {
            eq("number " + what + " of a new body", t.body(1, what), due[what]);
        }
        fails(STATE, "with four bodies, in the ground", () -> t.addBody(50, 15, 8, 8));
        TileRunners again = world(".....o..", FLAT);
        again.addBody(80, 20, 8, 8);
        again.press(0, 6);
        again.push(0, 9, -3);
        again.tick(2);
        eq("it has a coin", again.statistic(0, 0), 1);
        again.removeBody(0);
        again.addBody(50, 17, 8, 8);
        for (int what = 2; what < 10; what++) {
            eq("number " + what + " in place of an old body", again.body(0, what), what == 7 || what == 8 ? 8 : 0);
        }
        for (int what = 0; what < 7; what++) {
            eq("statistic " + what + " in place of an old body", again.statistic(0, what), what == 6 ? 17 : 0);
        }
        fails(ARITHMETIC, "no tick in place of an old body", () -> again.meanMoves(0));
        again.press(0, 4);
        again.tick(1);
        eq("no key was pressed in the tick before", again.body(0, 5), 3);
    }

    private static void removeBody() {
        TileRunners t = new TileRunners();
        t.addBody(10, 50, 4, 4);
        t.addBody(20, 60, 5, 5);
        t.addBody(30, 70, 6, 6);
        fails(INDEX, "body -1", () -> t.removeBody(-1));
        fails(INDEX, "body 3", () -> t.removeBody(3));
        t.tick(1);
        eq("remaining", t.removeBody(1), 2);
        forgotten("removeBody", t);
        eq("first stays", t.body(0, 0), 10);
        eq("third is second", t.body(1, 0), 30);
        eq("with its height", t.body(1, 8), 6);
        eq("and its fall", t.body(1, 1), 69);
        fails(INDEX, "the third", () -> t.body(2, 0));
        eq("remaining", t.removeBody(0), 1);
        eq("remaining", t.removeBody(0), 0);
        fails(INDEX, "none left", () -> t.removeBody(0));
        TileRunners later = new TileRunners();
        later.addBody(10, 50, 4, 4);
        later.addBody(20, 10, 5, 5);
        later.removeBody(0);
        later.tick(10);
        eq("deaths of the later one", later.statistic(0, 1), 1);
        place("where it was added", later, 20, 10);
    }

    /** Four bodies on four platforms, the most that there can be, in all that goes over all of them. */
    private static void fullWorld() {
        TileRunners t = world(FLAT);
        for (int i = 0; i < 4; i++) {
            eq("body", t.addBody(20 + 80 * i, 60, 8, 8), i);
            eq("platform", t.addPlatform(10 + 80 * i, 60, 30, i - 2, 0, 50), i);
        }
        eq("tile", t.setTile(0, 13, 10), 0);
        eq("prediction", t.predict(3, 0, 2, 0), 262);
        t.save();
        t.tick(3);
        for (int i = 0; i < 4; i++) {
            eq("carried by its own platform", t.body(i, 0), 20 + 80 * i + 3 * (i - 2));
            eq("seen", t.look(20 + 80 * i + 3 * (i - 2), 60), 100 + i);
            eq("platform seen", t.look(20 + 80 * i, 59), 200 + i);
        }
        eq("nothing seen", t.look(383, 100), 0);
        eq("undone", t.undo(), 2);
        t.restore();
        eq("bodies", t.count(0), 4);
        eq("platforms", t.count(1), 4);
        eq("bodies left", t.removeBody(1), 3);
        eq("platforms left", t.removePlatform(1), 3);
        eq("third body", t.body(2, 0), 260);
        eq("third platform", t.platform(2, 0), 250);
        eq("tick", t.tick(1), 1);
    }

    private static void body() {
        TileRunners t = new TileRunners();
        t.addBody(10, 100, 7, 9);
        t.press(0, 6);
        t.push(0, -3, 5);
        t.tick(1);
        int[] due = {8, 104, -2, 4, 0, 3, 0, 7, 9, 6};
        for (int what = 0; what < due.length; what++) {
            eq("number " + what, t.body(0, what), due[what]);
        }
        fails(ARGUMENT, "what -1", () -> t.body(0, -1));
        fails(ARGUMENT, "what 10", () -> t.body(0, 10));
        fails(INDEX, "body 1", () -> t.body(1, 10));
        fails(INDEX, "body -1", () -> t.body(-1, 0));
    }

    private static void press() {
        TileRunners t = new TileRunners();
        t.addBody(100, 100, 8, 8);
        eq("first", t.press(0, 15), 0);
        eq("second", t.press(0, 2), 15);
        fails(ARGUMENT, "-1", () -> t.press(0, -1));
        fails(ARGUMENT, "16", () -> t.press(0, 16));
        fails(INDEX, "body 1", () -> t.press(1, 16));
        t.tick(3);
        eq("it stays pressed", t.body(0, 0), 100 + 1 + 2 + 3);
        eq("third", t.press(0, 0), 2);
    }

    private static void push() {
        TileRunners t = new TileRunners();
        t.addBody(100, 100, 8, 8);
        eq("first", t.push(0, -16, -12), 0);
        eq("second", t.push(0, 16, 16), 400);
        eq("third", t.push(0, 3, -4), 512);
        eq("fourth", t.push(0, 0, 0), 25);
        int[][] outOfRange = {{-17, 0}, {17, 0}, {0, -13}, {0, 17}};
        for (int[] a : outOfRange) {
            fails(ARGUMENT, "out of range", () -> t.push(0, a[0], a[1]));
        }
        fails(INDEX, "body 1", () -> t.push(1, 17, 17));
        speeds("refused ones change nothing", t, 0, 0);
    }

    private static void addPlatform() {
        TileRunners t = new TileRunners();
        int[][] outOfRange = {{-1, 0, 16, 0, 0, 1}, {384, 0, 16, 0, 0, 1}, {0, -1, 16, 0, 0, 1}, {0, 224, 16, 0, 0, 1},
            {0, 0, 15, 0, 0, 1}, {0, 0, 65, 0, 0, 1}, {0, 0, 16, -3, 0, 1}, {0, 0, 16, 3, 0, 1}, {0, 0, 16, 0, -3, 1},
            {0, 0, 16, 0, 3, 1}, {0, 0, 16, 0, 0, 0}, {0, 0, 16, 0, 0, 61}};
        for (int[] a : outOfRange) {
            fails(ARGUMENT, "out of range", () -> t.addPlatform(a[0], a[1], a[2], a[3], a[4], a[5]));
        }
        t.tick(1);
        eq("first", t.addPlatform(383, 223, 64, 2, 2, 60), 0);
        forgotten("addPlatform", t);
        eq("second", t.addPlatform(0, 0, 16, -2, -2, 1), 1);
        eq("third", t.addPlatform(9, 9, 20, 0, 0, 9), 2);
        eq("fourth", t.addPlatform(9, 9, 20, 0, 0, 9), 3);
        fails(STATE, "a fifth", () -> t.addPlatform(9, 9, 20, 0, 0, 9));
        fails(ARGUMENT, "a fifth out of range", () -> t.addPlatform(9, 9, 20, 0, 0, 0));
        eq("platforms", t.count(1), 4);
    }

    private static void removePlatform() {
        TileRunners t = new TileRunners();
        t.addPlatform(10, 10, 16, 0, 0, 1);
        t.addPlatform(20, 20, 17, 0, 0, 1);
        t.addPlatform(30, 30, 18, 1, 0, 5);
        fails(INDEX, "platform 3", () -> t.removePlatform(3));
        fails(INDEX, "platform -1", () -> t.removePlatform(-1));
        t.tick(2);
        eq("remaining", t.removePlatform(0), 2);
        forgotten("removePlatform", t);
        eq("second is first", t.platform(0, 0), 20);
        eq("third is second", t.platform(1, 2), 18);
        eq("with its ticks", t.platform(1, 5), 3);
        eq("remaining", t.removePlatform(1), 1);
        eq("first stays", t.platform(0, 2), 17);
        eq("remaining", t.removePlatform(0), 0);
        fails(INDEX, "none left", () -> t.removePlatform(0));
    }

    private static void platform() {
        TileRunners t = new TileRunners();
        t.addPlatform(100, 50, 33, 2, -1, 3);
        int[][] due = {{100, 50, 33, 2, -1, 3}, {102, 49, 33, 2, -1, 2}, {104, 48, 33, 2, -1, 1},
            {106, 47, 33, -2, 1, 3}, {104, 48, 33, -2, 1, 2}, {102, 49, 33, -2, 1, 1}, {100, 50, 33, 2, -1, 3}};
        for (int tick = 0; tick < due.length; tick++) {
            for (int what = 0; what < 6; what++) {
                eq("number " + what + " behind tick " + tick, t.platform(0, what), due[tick][what]);
            }
            t.tick(1);
        }
        fails(ARGUMENT, "what -1", () -> t.platform(0, -1));
        fails(ARGUMENT, "what 6", () -> t.platform(0, 6));
        fails(INDEX, "platform 1", () -> t.platform(1, 6));
        fails(INDEX, "platform -1", () -> t.platform(-1, 0));
    }

    private static void count() {
        TileRunners t = world("o#.o....................");
        t.addPlatform(0, 100, 16, 0, 0, 1);
        t.addPlatform(0, 100, 16, 0, 0, 1);
        t.addBody(48, 0, 8, 8);
        eq("bodies", t.count(0), 1);
        eq("platforms", t.count(1), 2);
        eq("tiles", t.count(2), 3);
        eq("coins", t.count(3), 2);
        t.tick(1);
        eq("tiles behind a coin taken", t.count(2), 2);
        eq("coins behind a coin taken", t.count(3), 1);
        fails(ARGUMENT, "what -1", () -> t.count(-1));
        fails(ARGUMENT, "what 4", () -> t.count(4));
    }

    private static void set() {
        TileRunners t = new TileRunners();
        int[][] settings = {{5, 1, 10}, {10, 5, 16}, {4, 0, 10}, {3, 1, 10}};
        for (int i = 0; i < 4; i++) {
            int setting = i;
            fails(ARGUMENT, "too small", () -> t.set(setting, settings[setting][1] - 1));
            fails(ARGUMENT, "too great", () -> t.set(setting, settings[setting][2] + 1));
            eq("first", t.set(i, settings[i][1]), settings[i][0]);
            eq("least", t.set(i, settings[i][2]), settings[i][1]);
            eq("greatest", t.set(i, settings[i][0]), settings[i][2]);
        }
        fails(INDEX, "setting -1", () -> t.set(-1, 5));
        fails(INDEX, "setting 4", () -> t.set(4, 99));
        TileRunners flat = world(FLAT);
        flat.addBody(100, 16, 8, 8);
        flat.set(0, 3);
        flat.set(1, 16);
        flat.set(2, 0);
        flat.press(0, 6);
        flat.tick(1);
        flat.tick(1);
        eq("run speed", flat.body(0, 2), 3);
        eq("no jump without late time", flat.statistic(0, 2), 0);
        eq("nor a fall", flat.statistic(0, 3), 0);
        flat.press(0, 0);
        flat.tick(3);
        flat.set(2, 1);
        flat.set(3, 10);
        flat.press(0, 4);
        flat.tick(1);
        eq("jump speed", flat.body(0, 3), 15);
    }

    // ---- Promise 14: the steps of a tick ----

    private static void ticks() {
        TileRunners t = new TileRunners();
        eq("one", t.tick(1), 1);
        eq("a hundred", t.tick(100), 101);
        fails(ARGUMENT, "none", () -> t.tick(0));
        fails(ARGUMENT, "101", () -> t.tick(101));
        eq("clock", t.clock(), 101);
    }

    private static TileRunners runner(String... rows) {
        TileRunners t = world(rows);
        t.addBody(40, 16, 8, 12);
        return t;
    }

    private static void follow(String what, TileRunners t, int[] x) {
        for (int i = 0; i < x.length; i++) {
            t.tick(1);
            eq(what + ", tick " + (i + 1), t.body(0, 0), x[i]);
        }
    }

    private static void running() {
        TileRunners t = runner(FLAT);
        t.press(0, 2);
        follow("run", t, new int[] {42, 46, 51, 56});
        t.press(0, 3);
        follow("stop with both keys", t, new int[] {59, 60, 60});
        t.press(0, 1);
        follow("run back", t, new int[] {58, 54, 49, 44});
        t.press(0, 0);
        follow("stop", t, new int[] {41, 40, 40});
        t.push(0, 10, 0);
        t.press(0, 2);
        follow("beyond the run speed it stays", t, new int[] {50, 60});
        t.press(0, 1);
        follow("against it, it changes by 2", t, new int[] {68, 74});
        t.press(0, 0);
        t.push(0, -9, 0);
        follow("friction", t, new int[] {67, 62, 59, 58, 58});
        TileRunners wall = world("..#.....", FLAT);
        wall.addBody(20, 16, 8, 12);
        wall.press(0, 2);
        follow("into a wall", wall, new int[] {22, 24, 24});
        eq("stopped", wall.body(0, 2), 0);
        TileRunners side = runner(FLAT);
        side.push(0, -16, 0);
        side.press(0, 1);
        follow("to the side of the world", side, new int[] {24, 8, 0});
        eq("stopped there", side.body(0, 2), 0);
    }

    private static void runningOnIceAndInAir() {
        TileRunners ice = runner("iiiiii##################");
        ice.press(0, 2);
        follow("ice", ice, new int[] {41, 43, 46});
        ice.press(0, 0);
        follow("no friction", ice, new int[] {49, 52});
        TileRunners mixed = runner("##i#####################");
        mixed.press(0, 2);
        follow("all is ice", mixed, new int[] {41});
        mixed.push(0, 0, 0);
        mixed.removeBody(0);
        mixed.addBody(41, 16, 8, 12);
        mixed.press(0, 2);
        follow("ice and ground", mixed, new int[] {43});
        TileRunners floor = runner("..=.....................");
        floor.press(0, 2);
        follow("a floor is not ice", floor, new int[] {42});
        TileRunners iceAndFloor = runner("..i=....................");
        iceAndFloor.push(0, 6, 0);
        follow("ice beside a floor is all the ground", iceAndFloor, new int[] {46, 52});
        TileRunners air = new TileRunners();
        air.addBody(100, 200, 8, 8);
        air.press(0, 2);
        follow("air", air, new int[] {101, 103, 106, 110, 115, 120});
        air.press(0, 0);
        follow("no friction in the air", air, new int[] {125});
        air.push(0, 9, 0);
        air.press(0, 1);
        follow("against it in the air", air, new int[] {133});
    }

    private static void jumping() {
        TileRunners t = runner(FLAT);
        t.press(0, 4);
        t.tick(1);
        place("jump", t, 40, 25);
        speeds("jump", t, 0, 9);
        eq("late counter", t.body(0, 4), 0);
        eq("buffer counter", t.body(0, 5), 0);
        t.tick(8);
        place("top", t, 40, 61);
        t.tick(12);
        place("down again, and no jump with the key held", t, 40, 16);
        eq("jumps", t.statistic(0, 2), 1);
        t.press(0, 0);
        t.tick(1);
        t.press(0, 4);
        t.tick(1);
        t.press(0, 0);
        t.tick(1);
        place("cut", t, 40, 28);
        speeds("cut", t, 0, 3);
        TileRunners pushed = runner(FLAT);
        pushed.push(0, 0, 12);
        pushed.tick(1);
        speeds("a push is no jump of its own", pushed, 0, 11);
        TileRunners both = runner(FLAT);
        both.press(0, 4);
        both.tick(1);
        both.push(0, 0, 10);
        both.press(0, 0);
        both.tick(1);
        speeds("a push ends its own rise", both, 0, 9);
        TileRunners low = runner("..#.....................", "........................", FLAT);
        low.press(0, 4);
        low.tick(1);
        place("under a ceiling", low, 40, 20);
        speeds("under a ceiling", low, 0, 0);
    }

    private static void bufferedAndLateJumps() {
        TileRunners t = world(FLAT);
        t.addBody(40, 22, 8, 12);
        t.tick(1);
        t.press(0, 4);
        t.tick(1);
        place("falling", t, 40, 19);
        eq("buffer", t.body(0, 5), 3);
        t.tick(1);
        eq("buffer", t.body(0, 5), 2);
        place("down", t, 40, 16);
        t.tick(1);
        place("jump on the last buffer", t, 40, 25);
        TileRunners cut = world(FLAT);
        cut.addBody(40, 22, 8, 12);
        cut.tick(1);
        cut.press(0, 4);
        cut.tick(1);
        cut.press(0, 0);
        cut.tick(2);
        speeds("a jump whose key is up is cut at once", cut, 0, 3);
        TileRunners shorter = world(FLAT);
        shorter.set(3, 2);
        shorter.addBody(40, 22, 8, 12);
        shorter.tick(1);
        shorter.press(0, 4);
        shorter.tick(3);
        place("too early for a shorter buffer", shorter, 40, 16);
        for (int wait = 3; wait <= 6; wait++) {
            TileRunners late = runner("###.....................");
            late.press(0, 2);
            late.tick(wait);
            eq("late counter", late.body(0, 4), 7 - wait);
            late.press(0, 4);
            late.tick(1);
            eq("a late jump behind " + wait, late.statistic(0, 2), wait < 6 ? 1 : 0);
        }
    }

    private static void walls() {
        TileRunners t = new TileRunners();
        t.setTile(5, 6, 1);
        t.addBody(72, 100, 8, 8);
        t.press(0, 4);
        t.tick(1);
        place("off the right wall", t, 67, 109);
        speeds("off the right wall", t, -5, 9);
        eq("buffer", t.body(0, 5), 0);
        eq("jumps", t.statistic(0, 2), 1);
        t.press(0, 0);
        t.tick(1);
        speeds("it is its own rise", t, -5, 3);
        TileRunners left = new TileRunners();
        left.set(0, 7);
        left.setTile(5, 6, 5);
        left.addBody(96, 100, 8, 8);
        left.press(0, 4);
        left.tick(1);
        speeds("off the left wall", left, 7, 9);
        TileRunners both = new TileRunners();
        both.setTile(5, 6, 1);
        both.setTile(7, 6, 1);
        both.addBody(96, 100, 16, 8);
        both.press(0, 4);
        both.tick(1);
        eq("the right wall comes first", both.body(0, 2), 0);
        place("it could not move away", both, 96, 109);
        TileRunners gap = new TileRunners();
        gap.setTile(5, 6, 1);
        gap.addBody(71, 100, 8, 8);
        gap.press(0, 4);
        gap.tick(1);
        eq("no wall", gap.statistic(0, 2), 0);
        TileRunners leftGap = new TileRunners();
        leftGap.setTile(5, 6, 1);
        leftGap.addBody(97, 100, 8, 8);
        leftGap.press(0, 4);
        leftGap.tick(1);
        eq("no wall on the left", leftGap.statistic(0, 2), 0);
        TileRunners slide = new TileRunners();
        slide.addBody(376, 200, 8, 8);
        slide.press(0, 2);
        int[] y = {199, 197, 194, 191, 188};
        for (int due : y) {
            slide.tick(1);
            eq("slide", slide.body(0, 1), due);
        }
        slide.press(0, 1);
        slide.tick(1);
        speeds("away from the wall", slide, -1, -4);
    }

    private static void falling() {
        TileRunners t = new TileRunners();
        t.addBody(100, 200, 8, 8);
        t.tick(12);
        eq("speed", t.body(0, 3), -12);
        eq("y", t.body(0, 1), 200 - 78);
        t.tick(1);
        eq("speed", t.body(0, 3), -12);
        eq("y", t.body(0, 1), 200 - 90);
        TileRunners flat = world(FLAT);
        flat.addBody(100, 18, 8, 8);
        flat.tick(2);
        place("landed", flat, 100, 16);
        speeds("landed within the tick", flat, 0, 0);
        eq("landings", flat.statistic(0, 3), 1);
        flat.tick(3);
        eq("no landing with the speed 0", flat.statistic(0, 3), 1);
        TileRunners exact = world(FLAT);
        exact.addBody(100, 19, 8, 8);
        exact.tick(2);
        speeds("down, but not landed", exact, 0, -2);
        yes("stands", exact.stands(0));
        eq("landings", exact.statistic(0, 3), 0);
        exact.tick(1);
        eq("landings", exact.statistic(0, 3), 1);
        speeds("landed", exact, 0, 0);
    }

    private static void dropping() {
        TileRunners t = world("..=.....................", "........................", "........................");
        t.addBody(40, 48, 8, 12);
        eq("on a floor", t.support(0), 2);
        t.press(0, 8);
        t.tick(1);
        place("down alone does nothing", t, 40, 48);
        t.press(0, 12);
        t.tick(1);
        eq("drop counter", t.body(0, 6), 8);
        eq("buffer", t.body(0, 5), 0);
        eq("late", t.body(0, 4), 0);
        place("through", t, 40, 47);
        eq("no jump", t.statistic(0, 2), 0);
        t.tick(1);
        eq("drop counter", t.body(0, 6), 7);
        TileRunners ground = world("..=#....................");
        ground.addBody(44, 16, 8, 12);
        eq("floor and ground", ground.support(0), 3);
        ground.press(0, 12);
        ground.tick(1);
        eq("on ground it jumps", ground.statistic(0, 2), 1);
        TileRunners lift = new TileRunners();
        lift.addPlatform(40, 50, 16, 0, 0, 60);
        lift.addBody(44, 50, 4, 4);
        lift.press(0, 12);
        lift.tick(1);
        place("through a platform", lift, 44, 49);
        TileRunners jump = world("..=.....................");
        jump.addBody(40, 16, 8, 12);
        jump.press(0, 4);
        jump.tick(1);
        eq("without down it jumps", jump.body(0, 1), 25);
        jump.press(0, 8);
        jump.tick(1);
        jump.press(0, 12);
        jump.tick(1);
        eq("no drop in the air", jump.body(0, 6), 0);
        TileRunners run = world("..=#....................");
        run.addBody(44, 16, 8, 12);
        run.press(0, 14);
        run.tick(1);
        eq("on ground it stands until it jumps", run.body(0, 2), 2);
        TileRunners twice = world("..=.....................", "........................", "..=.....................");
        twice.addBody(40, 48, 8, 12);
        twice.press(0, 12);
        twice.tick(8);
        eq("still dropping", twice.body(0, 6), 1);
        eq("through both floors", twice.body(0, 1), 48 - 36);
        twice.tick(1);
        eq("not any more", twice.body(0, 6), 0);
    }

    private static void beltsAndSprings() {
        TileRunners t = runner(">>>>>>>>>>>>>>>>>>>>>>>>");
        follow("belt to the right", t, new int[] {41, 42});
        eq("speed", t.body(0, 2), 0);
        eq("moves", t.statistic(0, 4), 2);
        TileRunners left = runner("<<<<<<<<<<<<<<<<<<<<<<<<");
        follow("belt to the left", left, new int[] {39, 38});
        TileRunners both = world("..><....................");
        both.addBody(44, 16, 8, 12);
        follow("both", both, new int[] {44});
        eq("both moves", both.statistic(0, 4), 2);
        both.addBody(40, 16, 8, 12);
        both.removeBody(0);
        both.tick(1);
        eq("the left belt was not there", both.body(0, 0), 41);
        both.press(0, 4);
        both.tick(1);
        eq("no belt in a jump", both.body(0, 0), 41);
        TileRunners spring = world("..^.....................");
        spring.addBody(36, 20, 8, 8);
        spring.tick(3);
        place("on the spring", spring, 36, 16);
        speeds("on the spring", spring, 0, 16);
        eq("landings", spring.statistic(0, 3), 1);
        spring.tick(1);
        place("off the spring, which is no jump of its own", spring, 36, 31);
        TileRunners jump = world(".^^.....................");
        jump.addBody(20, 16, 8, 8);
        jump.press(0, 4);
        jump.tick(2);
        jump.press(0, 0);
        jump.tick(11);
        speeds("on the spring behind a jump", jump, 0, 16);
        jump.tick(1);
        speeds("which is not cut", jump, 0, 15);
        TileRunners still = world("..^.....................");
        still.addBody(36, 16, 8, 8);
        still.tick(2);
        place("standing on a spring does nothing", still, 36, 16);
        TileRunners hidden = world("..^.....................");
        hidden.addPlatform(30, 16, 20, 0, 0, 60);
        hidden.addBody(36, 17, 8, 8);
        hidden.tick(2);
        eq("a spring counts whatever stopped the fall", hidden.body(0, 3), 16);
    }

    private static void coinsAndSpikes() {
        TileRunners t = world("..oo....................", "..oo....................", FLAT);
        t.addBody(44, 30, 8, 8);
        t.tick(1);
        eq("coins", t.statistic(0, 0), 4);
        eq("left", t.count(3), 0);
        t.addBody(44, 30, 8, 8);
        t.tick(1);
        eq("coins", t.statistic(1, 0), 0);
        t.setTile(3, 1, 10);
        t.tick(5);
        eq("the first body takes it", t.statistic(0, 0), 5);
        eq("the second does not", t.statistic(1, 0), 0);
        TileRunners spikes = world("...x....................", FLAT);
        spikes.addBody(30, 17, 8, 8);
        spikes.press(0, 6);
        spikes.push(0, 4, 3);
        spikes.tick(1);
        place("beside", spikes, 35, 19);
        eq("buffer ahead of it", spikes.body(0, 5), 3);
        spikes.tick(1);
        place("beside", spikes, 40, 20);
        spikes.tick(1);
        place("back", spikes, 30, 17);
        speeds("back", spikes, 0, 0);
        eq("buffer", spikes.body(0, 5), 0);
        eq("deaths", spikes.statistic(0, 1), 1);
        eq("its keys stay", spikes.body(0, 9), 6);
        spikes.tick(1);
        eq("the key was pressed in the tick before", spikes.body(0, 5), 0);
        TileRunners low = new TileRunners();
        low.addBody(100, 0, 8, 8);
        low.push(0, 0, -12);
        low.tick(3);
        eq("y", low.body(0, 1), -36);
        low.push(0, 0, -3);
        low.tick(1);
        eq("y -40 is alive", low.body(0, 1), -40);
        low.push(0, 0, 0);
        low.tick(1);
        eq("y -41 is not", low.body(0, 1), 0);
        speeds("dead", low, 0, 0);
        eq("deaths", low.statistic(0, 1), 1);
        TileRunners ground = world("...x....................", FLAT);
        ground.addBody(36, 16, 8, 8);
        ground.press(0, 2);
        ground.tick(1);
        eq("late counter", ground.body(0, 4), 4);
        ground.tick(1);
        eq("dead on the ground", ground.statistic(0, 1), 1);
        eq("late counter", ground.body(0, 4), 0);
        TileRunners hole = world("..=.....................", "..x.....................");
        hole.addBody(36, 32, 8, 8);
        hole.press(0, 12);
        hole.tick(6);
        eq("dead in a drop", hole.statistic(0, 1), 1);
        eq("drop counter", hole.body(0, 6), 0);
        place("on the floor again", hole, 36, 32);
    }

    private static void slopes() {
        TileRunners t = world("../\\....................", FLAT);
        t.addBody(20, 16, 8, 12);
        t.press(0, 2);
        t.tick(3);
        place("at the foot, of which the column is 35", t, 31, 16 + 4);
        eq("on a slope", t.support(0), 4);
        t.tick(2);
        place("up", t, 41, 16 + 14);
        t.tick(1);
        place("over the top, of which the foot column is 47 and 48", t, 46, 30);
        eq("on the other slope, of which the foot column is 50", t.support(0), 4);
        t.tick(1);
        place("down", t, 51, 32 - 7);
        eq("still on it", t.support(0), 4);
        t.tick(2);
        place("at the other foot", t, 61, 16);
        eq("on the ground", t.support(0), 1);
        TileRunners ledge = world(".##\\....................", FLAT);
        ledge.addBody(20, 32, 8, 12);
        ledge.push(0, 16, 0);
        ledge.tick(2);
        place("half of it over the slope, on the ground", ledge, 46, 32);
        eq("which supports it alone", ledge.support(0), 1);
        ledge.press(0, 2);
        ledge.tick(1);
        place("it walks off, as its foot does not reach the slope", ledge, 58, 32);
        eq("and falls", ledge.support(0), 0);
        TileRunners steep = world("..#.....................", "../.....................", FLAT);
        steep.addBody(20, 16, 8, 12);
        steep.press(0, 2);
        steep.tick(9);
        eq("a tile over the slope stops it", steep.body(0, 0), 31);
        TileRunners back = world("../.....................", FLAT);
        back.addBody(60, 16, 8, 12);
        back.press(0, 1);
        back.tick(9);
        eq("a slope is a wall from behind", back.body(0, 0), 44);
        speeds("stopped", back, 0, 0);
        eq("moves", back.statistic(0, 4), 16);
        TileRunners corner = new TileRunners();
        corner.setTile(5, 6, 4);
        corner.addBody(70, 110, 8, 8);
        corner.addBody(70, 111, 8, 8);
        eq("a surface two units higher", corner.clearance(0, 1), 5);
        eq("a surface one unit higher", corner.clearance(1, 1), 376 - 70);
        TileRunners air = world("./......................");
        air.addBody(20, 30, 8, 8);
        air.tick(9);
        place("it falls onto the surface in its foot column", air, 20, 9);
    }

    private static void carried() {
        TileRunners t = new TileRunners();
        t.addPlatform(60, 40, 32, 2, 1, 10);
        t.addBody(70, 40, 8, 8);
        t.tick(3);
        place("carried", t, 76, 43);
        eq("by the platform", t.support(0), 8);
        eq("moves of its own", t.statistic(0, 4), 0);
        t.push(0, 0, 2);
        t.tick(1);
        place("not carried while it rises", t, 76, 44);
        TileRunners wall = new TileRunners();
        wall.addPlatform(60, 40, 40, 2, 0, 10);
        wall.setTile(6, 2, 1);
        wall.addBody(87, 40, 8, 8);
        wall.tick(2);
        place("held by a wall", wall, 88, 40);
        TileRunners ceiling = new TileRunners();
        ceiling.addPlatform(60, 40, 40, 0, 2, 10);
        ceiling.setTile(4, 3, 1);
        ceiling.addBody(64, 40, 8, 7);
        ceiling.tick(1);
        place("held by a ceiling at 41, and left by the platform", ceiling, 64, 40);
        eq("the platform goes on", ceiling.platform(0, 1), 42);
        TileRunners down = world(FLAT);
        down.addPlatform(60, 17, 40, 1, -2, 10);
        down.addBody(64, 17, 8, 7);
        down.tick(1);
        place("set down on the ground", down, 65, 16);
        TileRunners two = new TileRunners();
        two.addPlatform(60, 40, 40, 1, 0, 10);
        two.addPlatform(60, 40, 40, -1, 2, 10);
        two.addBody(70, 40, 8, 8);
        two.tick(1);
        place("the first one carries", two, 71, 41 - 1);
        TileRunners below = new TileRunners();
        below.addPlatform(60, 40, 40, 0, -2, 10);
        below.addPlatform(60, 39, 40, 0, 0, 10);
        below.addBody(70, 40, 8, 8);
        below.tick(1);
        place("set down on another platform", below, 70, 39);
        TileRunners deep = new TileRunners();
        deep.addPlatform(60, 40, 40, 0, -2, 10);
        deep.addBody(70, 40, 8, 8);
        deep.tick(2);
        place("carried down", deep, 70, 36);
        yes("stands", deep.stands(0));
        TileRunners slow = new TileRunners();
        slow.addPlatform(60, 40, 40, -1, -1, 10);
        slow.addBody(70, 40, 8, 8);
        slow.tick(2);
        place("carried down slowly", slow, 68, 38);
        eq("it stood in each tick", slow.statistic(0, 5), 2);
        TileRunners rising = new TileRunners();
        rising.addPlatform(60, 40, 40, 1, 0, 10);
        rising.addBody(70, 40, 8, 8);
        rising.push(0, 0, 1);
        rising.tick(1);
        place("not carried with the speed 1", rising, 70, 40);
        TileRunners drops = new TileRunners();
        drops.addPlatform(60, 40, 40, 1, 0, 10);
        drops.addPlatform(60, 39, 40, 2, 0, 10);
        drops.addBody(70, 40, 8, 8);
        drops.press(0, 12);
        drops.tick(2);
        place("not carried while it drops", drops, 71, 37);
        TileRunners edge = new TileRunners();
        edge.addPlatform(60, 40, 16, 0, 0, 10);
        edge.addBody(53, 40, 8, 8);
        edge.addBody(52, 40, 8, 8);
        edge.addBody(75, 40, 8, 8);
        edge.addBody(76, 40, 8, 8);
        eq("one column in common", edge.support(0), 8);
        eq("none in common", edge.support(1), 0);
        eq("one column in common", edge.support(2), 8);
        eq("none in common", edge.support(3), 0);
    }

    // ---- Promises 15 to 17 ----

    private static void tickUntilStanding() {
        TileRunners t = world(FLAT);
        t.addBody(40, 20, 8, 12);
        eq("ticks", t.tickUntilStanding(0, 100), 3);
        eq("already", t.tickUntilStanding(0, 1), 0);
        eq("clock", t.clock(), 3);
        fails(ARGUMENT, "none", () -> t.tickUntilStanding(0, 0));
        fails(ARGUMENT, "101", () -> t.tickUntilStanding(0, 101));
        fails(INDEX, "body 1", () -> t.tickUntilStanding(1, 0));
        t.press(0, 4);
        t.tick(1);
        fails(ELEMENT, "in the air", () -> t.tickUntilStanding(0, 17));
        eq("the ticks have passed", t.clock(), 21);
        eq("one more", t.tickUntilStanding(0, 1), 1);
        TileRunners exact = world(FLAT);
        exact.addBody(40, 20, 8, 12);
        eq("just enough", exact.tickUntilStanding(0, 3), 3);
        exact.undo();
        eq("each tick can be undone", exact.undo(), 1);
    }

    private static void undo() {
        TileRunners t = world("..o.....................", FLAT);
        t.addBody(40, 16, 8, 12);
        t.addPlatform(200, 100, 20, 1, 1, 2);
        t.press(0, 2);
        t.tick(1);
        t.press(0, 4);
        t.set(0, 9);
        t.tick(2);
        eq("clock", t.undo(), 2);
        eq("clock", t.undo(), 1);
        place("behind the first tick", t, 42, 16);
        eq("input ahead of the tick", t.body(0, 9), 4);
        eq("coin", t.statistic(0, 0), 1);
        eq("clock", t.undo(), 0);
        place("at first", t, 40, 16);
        eq("input", t.body(0, 9), 2);
        eq("coin", t.statistic(0, 0), 0);
        eq("coins left", t.count(3), 1);
        eq("platform", t.platform(0, 0), 200);
        eq("its ticks", t.platform(0, 5), 2);
        fails(ARITHMETIC, "no tick has passed", () -> t.meanMoves(0));
        eq("settings stay", t.set(0, 5), 9);
        forgotten("the first world", t);
        t.tick(20);
        for (int n = 1; n <= 12; n++) {
            eq("clock", t.undo(), 20 - n);
        }
        forgotten("twelve", t);
        eq("clock", t.clock(), 8);
        t.tick(1);
        t.save();
        eq("save forgets nothing", t.undo(), 8);
        t.tick(3);
        t.undo();
        t.tick(1);
        eq("behind a new tick", t.undo(), 10);
        eq("and the one before", t.undo(), 9);
        undoOfCounters();
    }

    /** Undoes one tick ahead of which all counters are greater than 0, and one within a rise. */
    private static void undoOfCounters() {
        TileRunners t = world("..=.....................");
        t.addBody(36, 16, 8, 8);
        t.press(0, 12);
        t.tick(1);
        t.press(0, 0);
        t.tick(1);
        t.press(0, 4);
        t.tick(1);
        int[] due = {36, 16 - 1 - 2 - 3, 0, -3, 0, 3, 6};
        t.tick(7);
        for (int n = 0; n < 7; n++) {
            t.undo();
        }
        for (int what = 0; what < due.length; what++) {
            eq("number " + what + " behind undo", t.body(0, what), due[what]);
        }
        t.tick(12);
        place("it died and went where it was added", t, 36, 16);
        TileRunners late = world(FLAT);
        late.addBody(36, 16, 8, 8);
        late.tick(1);
        late.push(0, 0, 16);
        late.tick(3);
        late.undo();
        eq("late counter", late.body(0, 4), 2);
        TileRunners rise = world(FLAT);
        rise.addBody(36, 16, 8, 8);
        rise.press(0, 4);
        rise.tick(1);
        rise.push(0, 0, 8);
        rise.press(0, 0);
        rise.undo();
        rise.press(0, 4);
        rise.tick(2);
        rise.push(0, 0, 8);
        rise.undo();
        rise.press(0, 0);
        rise.tick(1);
        speeds("its own rise comes back and is cut", rise, 0, 3);
    }

    private static void clock() {
        TileRunners t = new TileRunners();
        eq("at first", t.clock(), 0);
        t.tick(7);
        eq("behind ticks", t.clock(), 7);
        t.undo();
        eq("behind undo", t.clock(), 6);
        t.addBody(100, 100, 8, 8);
        t.predict(0, 0, 5, 0);
        t.apex(0, 0, 5);
        eq("a prediction does not count", t.clock(), 6);
    }

    // ---- Promises 18 to 29 ----

    private static void support() {
        TileRunners t = world("#=/.....................");
        t.addBody(20, 16, 16, 8);
        eq("floor", t.support(0), 2);
        t.addBody(8, 16, 16, 8);
        eq("ground and floor", t.support(1), 3);
        t.addPlatform(0, 16, 20, 0, 0, 1);
        eq("ground, floor and platform", t.support(1), 11);
        t.addBody(39, 16, 16, 8);
        eq("top of a slope", t.support(2), 4);
        t.addBody(38, 16, 16, 8);
        eq("over a slope", t.support(3), 0);
        fails(INDEX, "body 4", () -> t.support(4));
        fails(INDEX, "body -1", () -> t.support(-1));
        TileRunners high = world("=.......................");
        high.addBody(0, 15, 8, 8);
        eq("in a floor", high.support(0), 0);
        TileRunners beside = world("#/#.....................");
        beside.addBody(18, 9, 12, 8);
        eq("firm cells of the row of the foot do not count", beside.support(0), 4);
        eq("below", beside.below(0), 0);
        TileRunners drops = world("=.......................");
        drops.addPlatform(0, 15, 20, 0, 0, 1);
        drops.addBody(0, 16, 8, 8);
        drops.press(0, 12);
        drops.tick(1);
        eq("a body that drops", drops.support(0), 0);
        eq("is at the platform", drops.body(0, 1), 15);
    }

    private static void stands() {
        TileRunners t = world(FLAT);
        t.addBody(40, 16, 8, 8);
        yes("on the ground", t.stands(0));
        t.push(0, 0, 1);
        no("rising", t.stands(0));
        t.push(0, 0, -1);
        yes("falling onto it", t.stands(0));
        t.addBody(40, 17, 8, 8);
        no("over it", t.stands(1));
        fails(INDEX, "body 2", () -> t.stands(2));
        fails(INDEX, "body -1", () -> t.stands(-1));
    }

    private static void below() {
        TileRunners t = world("#i><^=x.................");
        int[][] due = {{0, 2}, {8, 2 + 32}, {16, 32}, {24, 32 + 64}, {40, 64 + 128}, {56, 128 + 256}, {72, 256}, {80, 0}};
        for (int[] row : due) {
            t.addBody(row[0], 16, 16, 8);
            eq("below " + row[0], t.below(0), row[1]);
            t.removeBody(0);
        }
        t.addBody(0, 17, 16, 8);
        eq("not directly below", t.below(0), 0);
        fails(INDEX, "body 1", () -> t.below(1));
        fails(INDEX, "body -1", () -> t.below(-1));
    }

    private static void isBlocked() {
        TileRunners t = world("#/#.....................", FLAT);
        t.addBody(18, 25, 12, 8);
        no("here", t.isBlocked(0, 0, 0));
        no("beside firm tiles of the row of the slope", t.isBlocked(0, 4, 0));
        no("and to the left", t.isBlocked(0, -5, 0));
        yes("with the foot beside the slope", t.isBlocked(0, 8, 0));
        yes("left of the world", t.isBlocked(0, -19, 100));
        no("at the side of the world", t.isBlocked(0, -18, 100));
        no("at the right side", t.isBlocked(0, 354, 100));
        yes("right of the world", t.isBlocked(0, 355, 100));
        yes("right of the world, above the rows", t.isBlocked(0, 355, 400));
        yes("left of the world, below the rows", t.isBlocked(0, -400, -400));
        no("below the rows", t.isBlocked(0, 40, -400));
        yes("in the ground", t.isBlocked(0, 40, -10));
        no("on the ground", t.isBlocked(0, 40, -9));
        fails(ARGUMENT, "dx -401", () -> t.isBlocked(0, -401, 0));
        fails(ARGUMENT, "dx 401", () -> t.isBlocked(0, 401, 0));
        fails(ARGUMENT, "dy -401", () -> t.isBlocked(0, 0, -401));
        fails(ARGUMENT, "dy 401", () -> t.isBlocked(0, 0, 401));
        fails(INDEX, "body 1", () -> t.isBlocked(1, 401, 0));
        TileRunners edge = world("/.......................");
        edge.addBody(0, 3, 16, 8);
        yes("cells beside the world count beside a slope, too", edge.isBlocked(0, -1, 0));
        TileRunners other = new TileRunners();
        other.setTile(23, 0, 4);
        other.addBody(368, 3, 16, 8);
        no("at the right side", other.isBlocked(0, 0, 0));
        yes("beyond it", other.isBlocked(0, 1, 0));
    }

    private static void clearance() {
        TileRunners t = world("../.....................", FLAT);
        t.addBody(20, 16, 8, 12);
        eq("to the left", t.clearance(0, -1), 20);
        eq("up the slope, over it and along", t.clearance(0, 1), 376 - 20);
        place("nothing moves", t, 20, 16);
        t.setTile(4, 1, 1);
        eq("along at the height of the top", t.clearance(0, 1), 376 - 20);
        t.setTile(4, 2, 1);
        eq("to a tile at that height", t.clearance(0, 1), 56 - 20);
        fails(ARGUMENT, "direction 0", () -> t.clearance(0, 0));
        fails(ARGUMENT, "direction 2", () -> t.clearance(0, 2));
        fails(INDEX, "body 1", () -> t.clearance(1, 0));
        TileRunners air = new TileRunners();
        air.addBody(0, 100, 4, 4);
        eq("through the air", air.clearance(0, 1), 380);
        eq("none", air.clearance(0, -1), 0);
    }

    private static void drop() {
        TileRunners t = world("..=/....................");
        t.addBody(40, 50, 8, 8);
        eq("to a floor", t.drop(0), 34);
        t.addBody(52, 50, 8, 8);
        eq("to a slope", t.drop(1), 50 - 9);
        t.addBody(100, 50, 8, 8);
        eq("into the deep", t.drop(2), -1);
        t.addPlatform(100, 0, 16, 0, -2, 20);
        t.tick(20);
        t.removePlatform(0);
        t.removeBody(2);
        t.addPlatform(100, 0, 16, 0, -2, 60);
        t.tick(20);
        t.addBody(100, 50, 8, 8);
        eq("to a platform at -40", t.drop(2), 90);
        t.tick(1);
        t.removeBody(2);
        t.addBody(100, 50, 8, 8);
        eq("a platform at -42 is too deep", t.drop(2), -1);
        t.tickUntilStanding(0, 60);
        eq("none", t.drop(0), 0);
        fails(INDEX, "body 3", () -> t.drop(3));
        fails(INDEX, "body -1", () -> t.drop(-1));
    }

    private static void look() {
        TileRunners t = world("..o.....................");
        t.addBody(40, 20, 8, 8);
        t.addBody(44, 24, 8, 8);
        t.addPlatform(40, 29, 16, 0, 0, 1);
        t.addPlatform(40, 29, 20, 0, 0, 1);
        eq("first body", t.look(40, 20), 100);
        eq("both bodies", t.look(47, 27), 100);
        eq("second body", t.look(48, 27), 101);
        eq("its last cell", t.look(51, 31), 101);
        eq("first platform", t.look(40, 28), 200);
        eq("its last cell", t.look(55, 28), 200);
        eq("second platform", t.look(56, 28), 201);
        eq("beside it", t.look(60, 28), 0);
        eq("on it", t.look(54, 29), 0);
        eq("under it", t.look(54, 27), 0);
        eq("tile", t.look(32, 0), 10);
        eq("its last cell", t.look(47, 15), 10);
        eq("corner", t.look(383, 223), 0);
        eq("other corner", t.look(0, 0), 0);
        int[][] outside = {{-1, 0}, {384, 0}, {0, -1}, {0, 224}};
        for (int[] cell : outside) {
            fails(ARGUMENT, "outside", () -> t.look(cell[0], cell[1]));
        }
    }

    private static void ray() {
        TileRunners t = world("......#.................", "../..\\=xo...............");
        eq("to a slope, at half its height", t.ray(0, 5, 0), 32 + 5);
        eq("to a slope from behind", t.ray(79, 5, 2), 79 - 47);
        eq("down to a slope", t.ray(40, 15, 3), 15 - 8);
        eq("on its surface", t.ray(40, 9, 3), 1);
        eq("in it", t.ray(40, 8, 3), 0);
        eq("down to the other slope", t.ray(80, 15, 3), 0);
        eq("down to its lower end", t.ray(95, 15, 3), 15);
        eq("down to a firm tile", t.ray(100, 50, 3), 50 - 31);
        eq("up to a firm tile through a floor", t.ray(100, 0, 1), 16);
        eq("in a firm tile", t.ray(100, 20, 0), 0);
        eq("through floor, spikes and coin to the side", t.ray(96, 3, 0), 384 - 96);
        eq("to the left side", t.ray(10, 40, 2), 11);
        eq("up and out", t.ray(10, 0, 1), -1);
        eq("down and out", t.ray(10, 223, 3), -1);
        eq("the last column", t.ray(383, 100, 0), 1);
        t.setTile(0, 13, 8);
        eq("in the highest row", t.ray(10, 223, 1), 0);
        fails(ARGUMENT, "direction -1", () -> t.ray(0, 0, -1));
        fails(ARGUMENT, "direction 4", () -> t.ray(0, 0, 4));
        int[][] outside = {{-1, 0}, {384, 0}, {0, -1}, {0, 224}};
        for (int[] cell : outside) {
            fails(ARGUMENT, "outside", () -> t.ray(cell[0], cell[1], 0));
        }
    }

    private static void predict() {
        TileRunners t = runner("..oo....", FLAT);
        t.addPlatform(200, 100, 16, 1, 0, 9);
        int[] due = {42, 25, 2, 9, 0, 0, 0};
        TileRunners flat = runner(FLAT);
        flat.press(0, 1);
        int[] inFlight = {41, 25, 1, 9, 0, 0, 0};
        inFlight[0] = 42;
        inFlight[2] = 2;
        for (int what = 0; what < 7; what++) {
            eq("number " + what, flat.predict(0, 6, 1, what), due[what]);
        }
        eq("with the other key", flat.predict(0, 1, 2, 0), 34);
        place("nothing changes", flat, 40, 16);
        eq("nor its input", flat.body(0, 9), 1);
        eq("nor its statistics", flat.statistic(0, 5), 0);
        eq("coins", t.predict(0, 2, 40, 0), 42 + 4 + 38 * 5);
        eq("stay", t.count(3), 2);
        eq("and platforms", t.platform(0, 0), 200);
        fails(ARGUMENT, "keys -1", () -> t.predict(0, -1, 1, 0));
        fails(ARGUMENT, "keys 16", () -> t.predict(0, 16, 1, 0));
        fails(ARGUMENT, "ticks 0", () -> t.predict(0, 0, 0, 0));
        fails(ARGUMENT, "ticks 41", () -> t.predict(0, 0, 41, 0));
        fails(ARGUMENT, "what -1", () -> t.predict(0, 0, 1, -1));
        fails(ARGUMENT, "what 7", () -> t.predict(0, 0, 1, 7));
        fails(INDEX, "body 1", () -> t.predict(1, 16, 41, 7));
        forgotten("a prediction", t);
    }

    private static void apex() {
        TileRunners t = runner(FLAT);
        eq("a jump", t.apex(0, 4, 40), 61);
        eq("its beginning", t.apex(0, 4, 2), 16 + 9 + 8);
        eq("no jump", t.apex(0, 0, 40), 16);
        eq("one tick", t.apex(0, 4, 1), 25);
        place("nothing changes", t, 40, 16);
        TileRunners air = new TileRunners();
        air.addBody(100, 100, 8, 8);
        eq("its present y", air.apex(0, 0, 5), 100);
        fails(ARGUMENT, "keys -1", () -> t.apex(0, -1, 1));
        fails(ARGUMENT, "keys 16", () -> t.apex(0, 16, 1));
        fails(ARGUMENT, "ticks 0", () -> t.apex(0, 0, 0));
        fails(ARGUMENT, "ticks 41", () -> t.apex(0, 0, 41));
        fails(INDEX, "body 1", () -> t.apex(1, 16, 41));
    }

    private static void statistic() {
        TileRunners t = world(FLAT);
        t.addBody(100, 18, 8, 8);
        eq("greatest y when added", t.statistic(0, 6), 18);
        t.tick(1);
        eq("greatest y behind a tick", t.statistic(0, 6), 17);
        t.tick(3);
        eq("stood", t.statistic(0, 5), 2);
        eq("landings", t.statistic(0, 3), 1);
        eq("moves", t.statistic(0, 4), 2);
        t.press(0, 6);
        t.tick(3);
        eq("jumps", t.statistic(0, 2), 1);
        eq("moves", t.statistic(0, 4), 2 + 2 + 3 + 4 + 9 + 8 + 7);
        eq("greatest y", t.statistic(0, 6), 40);
        eq("stood", t.statistic(0, 5), 3);
        eq("coins", t.statistic(0, 0), 0);
        eq("deaths", t.statistic(0, 1), 0);
        fails(ARGUMENT, "what -1", () -> t.statistic(0, -1));
        fails(ARGUMENT, "what 7", () -> t.statistic(0, 7));
        fails(INDEX, "body 1", () -> t.statistic(1, 7));
        fails(INDEX, "body -1", () -> t.statistic(-1, 0));
    }

    private static void meanMoves() {
        TileRunners t = runner(FLAT);
        fails(ARITHMETIC, "no tick", () -> t.meanMoves(0));
        t.press(0, 2);
        t.tick(3);
        yes("11 moves in 3 ticks", t.meanMoves(0) == 11f / 3f);
        t.addBody(100, 16, 8, 8);
        fails(ARITHMETIC, "no tick since it was added", () -> t.meanMoves(1));
        t.tick(1);
        yes("16 moves in 4 ticks", t.meanMoves(0) == 4f);
        yes("no moves", t.meanMoves(1) == 0f);
        fails(INDEX, "body 2", () -> t.meanMoves(2));
        fails(INDEX, "body -1", () -> t.meanMoves(-1));
    }

    // ---- Promises 30 to 35 ----

    private static void append() {
        TileRunners t = new TileRunners();
        for (int i = 0; i < 40; i++) {
            t.append((char) (i * 1000));
        }
        fails(STATE, "a 41st", () -> t.append('#'));
        fails(ARGUMENT, "a text that is none", () -> t.readTiles(0, 0));
        t.append('#');
        eq("a new text", t.readTiles(0, 0), 1);
    }

    private static int tileFault(String text) {
        TileRunners t = new TileRunners();
        write(t, text);
        fails(ARGUMENT, "readTiles of " + text, () -> t.readTiles(0, 0));
        return t.faultPosition();
    }

    private static void readTiles() {
        TileRunners t = new TileRunners();
        write(t, ".#=/\\i><^xo");
        eq("set", t.readTiles(13, 13), 11);
        for (int kind = 0; kind <= 10; kind++) {
            eq("kind", t.tile(13 + kind, 13), kind);
        }
        eq("none before", t.tile(12, 13), 0);
        write(t, "###");
        fails(STATE, "more signs than columns", () -> t.readTiles(22, 0));
        eq("no fault", t.faultPosition(), -1);
        eq("no tile", t.count(2), 10);
        fails(ARGUMENT, "the buffer was emptied", () -> t.readTiles(0, 0));
        int[][] outside = {{-1, 0}, {24, 0}, {0, -1}, {0, 14}};
        for (int[] tile : outside) {
            write(t, "#");
            fails(INDEX, "no such tile", () -> t.readTiles(tile[0], tile[1]));
            fails(ARGUMENT, "the buffer was emptied", () -> t.readTiles(0, 0));
        }
        t.addBody(20, 20, 8, 8);
        t.tick(1);
        write(t, "o##");
        fails(STATE, "a body would be blocked", () -> t.readTiles(0, 1));
        eq("no tile set", t.tile(0, 1), 0);
        eq("nothing forgotten", t.undo(), 0);
        t.tick(1);
        write(t, "#");
        eq("beside it", t.readTiles(0, 1), 1);
        forgotten("readTiles", t);
        eq("fault of none", tileFault(""), 0);
        eq("fault at first", tileFault("q#"), 0);
        eq("fault at last", tileFault("##q"), 2);
        eq("a 25th sign", tileFault(FLAT + "#"), 24);
        eq("a 25th sign, and a fault before", tileFault(FLAT.substring(2) + "q##"), 22);
        write(t, FLAT + "#");
        fails(ARGUMENT, "a fault comes before the columns", () -> t.readTiles(23, 5));
    }

    private static int inputFault(String text) {
        TileRunners t = new TileRunners();
        t.addBody(100, 100, 8, 8);
        write(t, text);
        fails(ARGUMENT, "play of " + text, () -> t.play(0));
        eq("clock", t.clock(), 0);
        eq("input", t.body(0, 9), 0);
        return t.faultPosition();
    }

    private static void play() {
        String[] letters = {"n", "l", "r", "j", "d", "L", "R", "D"};
        int[] keys = {0, 1, 2, 4, 8, 5, 6, 12};
        for (int i = 0; i < letters.length; i++) {
            TileRunners t = world(FLAT);
            t.addBody(100, 16, 8, 8);
            write(t, letters[i] + "0");
            eq("ticks", t.play(0), 0);
            eq("clock", t.clock(), 0);
            eq("keys", t.body(0, 9), keys[i]);
        }
        TileRunners t = runner(FLAT);
        write(t, "r03n1R2");
        eq("ticks", t.play(0), 6);
        eq("clock", t.clock(), 6);
        place("behind the play", t, 51 + 3 + 5 + 5, 16 + 9 + 8);
        eq("the last input stays", t.body(0, 9), 6);
        eq("each tick can be undone", t.undo(), 5);
        write(t, "l0n0r0n0n0l0r0r0l0l0n1n1n1n1n1n1n1n1n1r1");
        eq("twenty commands", t.play(0), 10);
        eq("the last one", t.body(0, 9), 2);
        for (int n = 0; n < 10; n++) {
            t.undo();
        }
        eq("the clock as before", t.clock(), 5);
        write(t, "n99n99n2");
        eq("200 ticks", t.play(0), 200);
        write(t, "r1n99n99n2");
        fails(UNSUPPORTED, "201 ticks", () -> t.play(0));
        eq("no fault", t.faultPosition(), -1);
        eq("nothing is carried out", t.clock(), 205);
        fails(ARGUMENT, "the buffer was emptied", () -> t.play(0));
        write(t, "r1");
        fails(INDEX, "body 1", () -> t.play(1));
        fails(ARGUMENT, "the buffer was emptied", () -> t.play(0));
        eq("empty", inputFault(""), 0);
        eq("no letter", inputFault("5"), 0);
        eq("no such letter", inputFault("r5N5"), 2);
        eq("no digit", inputFault("r5l"), 3);
        eq("no digit at first", inputFault("rl5"), 1);
        eq("three digits", inputFault("r123"), 3);
        eq("another sign", inputFault("r1 l2"), 2);
        eq("a sign behind 0", inputFault("r/"), 1);
        eq("a sign behind 9", inputFault("r:"), 1);
    }

    private static void faultPosition() {
        TileRunners t = new TileRunners();
        eq("no call", t.faultPosition(), -1);
        write(t, "##q");
        fails(INDEX, "no such tile", () -> t.readTiles(24, 0));
        eq("no call with an existing tile", t.faultPosition(), -1);
        write(t, "##q");
        fails(ARGUMENT, "fault", () -> t.readTiles(0, 0));
        eq("fault", t.faultPosition(), 2);
        write(t, "r");
        fails(INDEX, "no such body", () -> t.play(0));
        eq("still that fault", t.faultPosition(), 2);
        t.addBody(100, 100, 8, 8);
        t.tick(1);
        t.save();
        t.undo();
        write(t, "r");
        t.restore();
        eq("a restore does not count", t.faultPosition(), 2);
        fails(ARGUMENT, "the text stayed, too", () -> t.play(0));
        eq("fault at the end", t.faultPosition(), 1);
        write(t, "r1");
        t.play(0);
        eq("no fault", t.faultPosition(), -1);
    }

    private static void saveAndRestore() {
        TileRunners t = runner("..oo....", FLAT);
        t.addPlatform(200, 100, 16, 1, 0, 9);
        t.press(0, 2);
        t.tick(2);
        t.set(0, 7);
        t.save();
        t.tick(1);
        t.set(0, 3);
        t.set(1, 11);
        t.set(2, 1);
        t.set(3, 9);
        t.tick(4);
        t.press(0, 1);
        t.setTile(9, 9, 1);
        t.addBody(300, 100, 8, 8);
        t.removePlatform(0);
        t.tick(1);
        for (int again = 0; again < 2; again++) {
            t.restore();
            eq("clock", t.clock(), 2);
            eq("bodies", t.count(0), 1);
            eq("platforms", t.count(1), 1);
            eq("platform", t.platform(0, 0), 202);
            place("body", t, 46, 16);
            eq("input", t.body(0, 9), 2);
            eq("tile", t.tile(9, 9), 0);
            eq("run speed", t.set(0, 6), 7);
            eq("jump speed", t.set(1, 12), 10);
            eq("late time", t.set(2, 6), 4);
            eq("buffer time", t.set(3, 6), 3);
            forgotten("restore", t);
            t.tick(3);
        }
        t.save();
        t.tick(1);
        t.restore();
        eq("the later snapshot", t.clock(), 5);
        TileRunners dies = new TileRunners();
        dies.addBody(30, 10, 8, 8);
        dies.save();
        dies.removeBody(0);
        dies.addBody(90, 50, 8, 8);
        dies.restore();
        dies.tick(10);
        eq("it died", dies.statistic(0, 1), 1);
        place("where the restored one was added", dies, 30, 10);
    }

    private static void restoreWithout() {
        TileRunners t = new TileRunners();
        t.tick(1);
        fails(STATE, "no snapshot", () -> t.restore());
        eq("nothing forgotten", t.undo(), 0);
    }

    public static void main(String[] args) {
        check("promise 1", () -> newObject());
        check("promise 2", () -> setTile());
        check("promise 3", () -> tile());
        check("promise 4", () -> addBody());
        check("promise 5", () -> removeBody());
        check("promises 4 to 11, a full world", () -> fullWorld());
        check("promise 6", () -> body());
        check("promise 7", () -> press());
        check("promise 8", () -> push());
        check("promise 9", () -> addPlatform());
        check("promise 10", () -> removePlatform());
        check("promise 11", () -> platform());
        check("promise 12", () -> count());
        check("promise 13", () -> set());
        check("promise 14", () -> ticks());
        check("promise 14, running", () -> running());
        check("promise 14, ice and air", () -> runningOnIceAndInAir());
        check("promise 14, jumps", () -> jumping());
        check("promise 14, buffered and late jumps", () -> bufferedAndLateJumps());
        check("promise 14, walls", () -> walls());
        check("promise 14, falls", () -> falling());
        check("promise 14, drops", () -> dropping());
        check("promise 14, belts and springs", () -> beltsAndSprings());
        check("promise 14, coins and spikes", () -> coinsAndSpikes());
        check("promise 14, slopes", () -> slopes());
        check("promise 14, platforms", () -> carried());
        check("promise 15", () -> tickUntilStanding());
        check("promise 16", () -> undo());
        check("promise 17", () -> clock());
        check("promise 18", () -> support());
        check("promise 19", () -> stands());
        check("promise 20", () -> below());
        check("promise 21", () -> isBlocked());
        check("promise 22", () -> clearance());
        check("promise 23", () -> drop());
        check("promise 24", () -> look());
        check("promise 25", () -> ray());
        check("promise 26", () -> predict());
        check("promise 27", () -> apex());
        check("promise 28", () -> statistic());
        check("promise 29", () -> meanMoves());
        check("promise 30", () -> append());
        check("promise 31", () -> readTiles());
        check("promise 32", () -> play());
        check("promise 33", () -> faultPosition());
        check("promises 34 and 35", () -> saveAndRestore());
        check("promise 35", () -> restoreWithout());
        finish("all promises are kept");
    }
}
