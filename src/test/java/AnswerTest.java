/** The sentences of the promises on what a call does and answers, a test each where they name a boundary. */
public final class AnswerTest extends Checks {

    // ---- Promises 1 to 13 ----

    private static void makers() {
        sentence("Creates a world of empty tiles without bodies and platforms, with the initial settings.", () -> {
            TileRunners t = new TileRunners();
            int[] settings = {5, 10, 4, 3};
            for (int what = 0; what < 4; what++) {
                eq("count", t.count(what), 0);
                eq("setting", t.set(what, settings[what]), settings[what]);
            }
            eq("clock", t.clock(), 0);
            eq("fault", t.faultPosition(), -1);
            forgotten("nothing", t);
            fails(STATE, "restore", () -> t.restore());
            eq("room for 40 characters, not 41", roomIn(t), 40);
        });
        sentence("Returns the previous kind.", () -> {
            TileRunners t = new TileRunners();
            int[][] corners = {{0, 0}, {23, 0}, {0, 13}, {23, 13}};
            for (int[] c : corners) {
                eq("of an empty tile", t.setTile(c[0], c[1], 10), 0);
                eq("of a coin", t.setTile(c[0], c[1], 9), 10);
                eq("of spikes, set again", t.setTile(c[0], c[1], 9), 9);
                eq("kind", t.tile(c[0], c[1]), 9);
            }
            eq("tiles", t.count(2), 4);
        });
        sentence("Adds a body, the last one. Its speeds and counters are 0, and no key was pressed in the tick before.", () -> {
            TileRunners t = new TileRunners();
            for (int i = 0; i < 4; i++) {
                eq("number", t.addBody(50 + 20 * i, 150, 8, 8), i);
                for (int what = 2; what <= 6; what++) {
                    eq("number " + what, t.body(i, what), 0);
                }
                eq("input", t.body(i, 9), 0);
                t.press(i, JUMP + RIGHT);
                t.push(i, 5, 5);
                t.tick(1);
                eq("jump was not pressed before", t.body(i, 5), 3);
            }
        });
        sentence("- `x`: the x, 0 to 383 - `y`: the y, 0 to 223 - `width`: the width", () -> {
            TileRunners t = new TileRunners();
            eq("the least", t.addBody(0, 0, 4, 4), 0);
            eq("the greatest y", t.addBody(380, 223, 4, 4), 1);
            fails(STATE, "the greatest x is in range, but blocked", () -> t.addBody(383, 0, 4, 4));
            fails(ARGUMENT, "x 384", () -> t.addBody(384, 0, 4, 4));
            fails(ARGUMENT, "x -1", () -> t.addBody(-1, 0, 4, 4));
            fails(ARGUMENT, "y 224", () -> t.addBody(0, 224, 4, 4));
            fails(ARGUMENT, "y -1", () -> t.addBody(0, -1, 4, 4));
        });
        sentence("Removes a body. The numbers of the later ones decrease by 1.", () -> {
            for (int removed = 0; removed < 4; removed++) {
                TileRunners t = new TileRunners();
                for (int i = 0; i < 4; i++) {
                    t.addBody(20 * i, 100, 4 + i, 8);
                }
                eq("remaining", t.removeBody(removed), 3);
                for (int i = 0; i < 3; i++) {
                    eq("width", t.body(i, 7), 4 + i + (i >= removed ? 1 : 0));
                }
                fails(INDEX, "the last number", () -> t.body(3, 7));
                eq("room for another", t.addBody(0, 200, 4, 4), 3);
            }
        });
        sentence("Removes a platform. The numbers of the later ones decrease by 1.", () -> {
            for (int removed = 0; removed < 4; removed++) {
                TileRunners t = new TileRunners();
                for (int i = 0; i < 4; i++) {
                    t.addPlatform(20 * i, 100, 16 + i, i - 2, 1, 5 + i);
                }
                eq("remaining", t.removePlatform(removed), 3);
                for (int i = 0; i < 3; i++) {
                    int was = i + (i >= removed ? 1 : 0);
                    eq("width", t.platform(i, 2), 16 + was);
                    eq("dx", t.platform(i, 3), was - 2);
                    eq("ticks left", t.platform(i, 5), 5 + was);
                }
                fails(INDEX, "the last number", () -> t.platform(3, 2));
                eq("room for another", t.addPlatform(0, 200, 16, 0, 0, 1), 3);
            }
        });
        sentence("Returns the square of the previous speed, that is, the sum of the squares of both speeds.", () -> {
            TileRunners t = withBody(100, 100, 8, 8, ".");
            eq("at first", t.push(0, -16, 16), 0);
            eq("the greatest", t.push(0, 16, -12), 512);
            eq("at the other limits", t.push(0, 3, 4), 400);
            eq("of small speeds", t.push(0, 0, -12), 25);
            t.tick(1);
            eq("behind a tick", t.push(0, 0, 0), 144);
        });
        sentence("2 for the tiles that are not empty, 3 for the coin tiles", () -> {
            TileRunners t = new TileRunners();
            for (int row = 0; row < 14; row++) {
                write(t, "o".repeat(24));
                t.readTiles(0, row);
                eq("tiles", t.count(2), 24 * (row + 1));
                eq("coins", t.count(3), 24 * (row + 1));
            }
            eq("of a world full of coins", t.setTile(5, 5, 9), 10);
            eq("tiles", t.count(2), 336);
            eq("coins", t.count(3), 335);
        });
    }

    private static int roomIn(TileRunners t) {
        for (int n = 0; n < 100; n++) {
            try {
                t.append('#');
            } catch (IllegalStateException e) {
                return n;
            }
        }
        return 100;
    }

    // ---- Promises 14 to 17 ----

    private static void ticks() {
        sentence("- `ticks`: the number, 1 to 100", () -> {
            TileRunners t = new TileRunners();
            eq("one", t.tick(1), 1);
            eq("a hundred", t.tick(100), 101);
            fails(ARGUMENT, "0", () -> t.tick(0));
            fails(ARGUMENT, "101", () -> t.tick(101));
            eq("clock", t.clock(), 101);
        });
        sentence("Lets ticks pass until a body stands, but not more than a number.", () -> {
            for (int most = 1; most <= 4; most++) {
                TileRunners t = withBody(100, 22, 8, 8, FLAT);
                int limit = most;
                if (most < 3) {
                    fails(ELEMENT, "in the air", () -> t.tickUntilStanding(0, limit));
                    eq("clock", t.clock(), most);
                } else {
                    eq("ticks", t.tickUntilStanding(0, limit), 3);
                    eq("clock", t.clock(), 3);
                }
            }
            TileRunners high = withBody(100, 223, 8, 8, FLAT);
            high.push(0, 0, 16);
            eq("up by 120 in 15 ticks, down by 327 in 33 more", high.tickUntilStanding(0, 100), 49);
        });
        sentence("Returns how many ticks passed, 0 if it stands already.", () -> {
            TileRunners t = withBody(100, 16, 8, 8, FLAT);
            eq("already", t.tickUntilStanding(0, 1), 0);
            eq("clock", t.clock(), 0);
            t.push(0, 0, 1);
            eq("rising, though supported", t.tickUntilStanding(0, 100), 1);
        });
        sentence("Returns the clock, the number of ticks that passed and were not undone.", () -> {
            TileRunners t = withBody(100, 16, 8, 8, FLAT);
            t.tick(5);
            t.undo();
            t.undo();
            eq("clock", t.clock(), 3);
            write(t, "n0r4");
            t.play(0);
            eq("behind a play", t.clock(), 7);
            t.predict(0, 0, 40, 0);
            t.apex(0, 0, 40);
            eq("behind predictions", t.clock(), 7);
        });
    }

    // ---- Promises 18 to 25 ----

    private static void questions() {
        sentence("Returns the sum of 1 for ground, 2 for one-way floors, 4 for slopes, and 8 for platforms; if it drops,"
                + " one-way floors and platforms do not count.", () -> {
            TileRunners t = withBody(40, 16, 16, 8, "..=#");
            t.addPlatform(40, 16, 16, 0, 0, 1);
            eq("all but slopes", t.support(0), 11);
            TileRunners slope = withBody(40, 16, 16, 8, ".../=");
            slope.setTile(2, 0, 8);
            slope.removeBody(0);
            slope.addBody(55, 16, 16, 8);
            slope.addPlatform(40, 16, 16, 0, 0, 1);
            eq("a slope, a floor and a platform", slope.support(0), 2 + 4 + 8);
            eq("nothing", withBody(40, 17, 16, 8, "..=#").support(0), 0);
        });
        sentence("Returns the set of kinds, bit k for kind k.", () -> {
            int[] kinds = {1, 5, 6, 7, 8};
            for (int first : kinds) {
                for (int second : kinds) {
                    TileRunners t = new TileRunners();
                    t.setTile(2, 0, first);
                    t.setTile(3, 0, second);
                    t.addBody(44, 16, 8, 8);
                    eq("kinds " + first + " and " + second, t.below(0), 1 << first | 1 << second);
                }
            }
            for (int kind : new int[] {0, 2, 3, 4, 9, 10}) {
                TileRunners t = new TileRunners();
                t.setTile(2, 0, kind);
                t.setTile(3, 0, kind);
                t.addBody(44, 16, 8, 8);
                eq("kind " + kind, t.below(0), 0);
            }
        });
        sentence("- `dx`: the move sideways, -400 to 400 - `dy`: the move upwards, -400 to 400", () -> {
            TileRunners t = withBody(100, 100, 8, 8, ".");
            yes("-400 sideways", t.isBlocked(0, -400, 0));
            yes("400 sideways", t.isBlocked(0, 400, 0));
            no("-400 upwards", t.isBlocked(0, 0, -400));
            no("400 upwards", t.isBlocked(0, 0, 400));
            fails(ARGUMENT, "dx -401", () -> t.isBlocked(0, -401, 0));
            fails(ARGUMENT, "dx 401", () -> t.isBlocked(0, 401, 0));
            fails(ARGUMENT, "dy -401", () -> t.isBlocked(0, 0, -401));
            fails(ARGUMENT, "dy 401", () -> t.isBlocked(0, 0, 401));
        });
        sentence("with what they do to its height; platforms stay where they are.", () -> {
            TileRunners t = withBody(20, 16, 8, 8, "../", FLAT);
            t.addPlatform(48, 32, 16, 0, 0, 1);
            t.addPlatform(64, 33, 16, 2, 2, 1);
            t.setTile(7, 2, 1);
            eq("up a slope, along its height, to a wall", t.clearance(0, 1), 112 - 28);
            eq("back", t.clearance(0, -1), 20);
            place("it stays itself", t, 20, 16);
            eq("platform", t.platform(1, 0), 64);
        });
        sentence("Returns the number, at most 400.", () -> {
            TileRunners t = withBody(0, 100, 4, 4, ".");
            eq("the widest way", t.clearance(0, 1), 380);
            eq("none", t.clearance(0, -1), 0);
            TileRunners right = withBody(380, 100, 4, 4, ".");
            eq("the widest way back", right.clearance(0, -1), 380);
            eq("none", right.clearance(0, 1), 0);
        });
        sentence("Returns the number, or -1 if it could be moved down until its y is less than -40.", () -> {
            TileRunners t = withBody(100, 100, 8, 8, ".");
            eq("into the deep", t.drop(0), -1);
            t.addPlatform(96, 0, 20, 0, -2, 60);
            t.tick(1);
            t.removeBody(0);
            for (int y = -2; y >= -44; y -= 2) {
                eq("platform", t.platform(0, 1), y);
                int body = t.addBody(100, 100, 8, 8);
                eq("to a platform at " + y, t.drop(body), y >= -40 ? 100 - y : -1);
                t.removeBody(body);
                t.tick(1);
            }
            TileRunners here = withBody(100, 16, 8, 8, FLAT);
            eq("none", here.drop(0), 0);
        });
        sentence("Returns 100 plus the number of the first body that covers it; if there is none, 200 plus the number of the"
                + " first platform that has this cell directly below its top; if there is none, either, the kind of its"
                + " tile.", () -> {
            TileRunners t = world("o".repeat(24));
            for (int i = 0; i < 4; i++) {
                t.addBody(100 + 3 * i, 4, 8, 8);
                t.addPlatform(98 + 3 * i, 8, 16, 0, 0, 1);
            }
            for (int x = 96; x < 126; x++) {
                int body = x < 100 || x > 116 ? -1 : Math.max(0, (x - 105) / 3);
                int platform = x < 98 || x > 122 ? -1 : Math.max(0, (x - 111) / 3);
                int due = body >= 0 ? 100 + body : platform >= 0 ? 200 + platform : 10;
                eq("cell " + x, t.look(x, 7), due);
                eq("cell above the bodies at " + x, t.look(x, 12), 10);
            }
            t.removeBody(0);
            eq("the next body", t.look(103, 7), 100);
            eq("the platform behind it", t.look(102, 7), 200);
        });
        sentence("- `x`: the x of the cell, 0 to 383 - `y`: its y, 0 to 223", () -> {
            TileRunners t = new TileRunners();
            t.setTile(0, 0, 10);
            t.setTile(23, 13, 9);
            eq("the first cell", t.look(0, 0), 10);
            eq("the last cell", t.look(383, 223), 9);
        });
        sentence("Returns the number, 0 if the first cell is not free, or -1 if all cells are free up to where the way leaves"
                + " the rows of tiles.", () -> rays());
    }

    private static void rays() {
        TileRunners t = new TileRunners();
        int[][] free = {{0, 0}, {383, 0}, {0, 223}, {383, 223}, {200, 100}};
        for (int[] cell : free) {
            eq("to the right side", t.ray(cell[0], cell[1], 0), 384 - cell[0]);
            eq("upwards", t.ray(cell[0], cell[1], 1), -1);
            eq("to the left side", t.ray(cell[0], cell[1], 2), cell[0] + 1);
            eq("downwards", t.ray(cell[0], cell[1], 3), -1);
        }
        for (int kind : new int[] {1, 5, 6, 7, 8}) {
            t.setTile(10, 5, kind);
            for (int direction = 0; direction < 4; direction++) {
                eq("in a firm cell", t.ray(160, 95, direction), 0);
                eq("in a firm cell", t.ray(175, 80, direction), 0);
            }
            eq("to the right", t.ray(159, 80, 0), 1);
            eq("to the left", t.ray(176, 95, 2), 1);
            eq("upwards", t.ray(160, 79, 1), 1);
            eq("upwards from the lowest cell", t.ray(160, 0, 1), 80);
            eq("downwards", t.ray(175, 96, 3), 1);
            eq("downwards from the highest cell", t.ray(175, 223, 3), 128);
            eq("beside it", t.ray(159, 0, 1), -1);
        }
        for (int kind : new int[] {0, 2, 9, 10}) {
            t.setTile(10, 5, kind);
            eq("through kind " + kind, t.ray(165, 0, 1), -1);
        }
        t.setTile(10, 0, 1);
        t.setTile(10, 13, 1);
        eq("a firm cell in the highest row", t.ray(165, 100, 1), 108);
        eq("a firm cell in the lowest row", t.ray(165, 100, 3), 85);
    }

    // ---- Promises 26 to 29 ----

    private static void predictions() {
        sentence("Returns a number of a body as it will be after ticks in which its input is a certain one and the inputs of"
                + " all others stay; nothing changes by it.", () -> {
            TileRunners t = world("..oooooooooooooo", FLAT);
            t.addBody(20, 16, 8, 8);
            t.addBody(30, 16, 8, 8);
            t.addPlatform(200, 16, 30, 1, 1, 7);
            t.press(1, RIGHT);
            t.tick(3);
            t.press(0, LEFT);
            int coins = t.count(3);
            for (int what = 0; what <= 6; what++) {
                int predicted = t.predict(0, RIGHT + JUMP, 40, what);
                t.save();
                t.press(0, RIGHT + JUMP);
                t.tick(40);
                eq("number " + what, predicted, t.body(0, what));
                t.restore();
            }
            eq("coins", t.count(3), coins);
            eq("clock", t.clock(), 3);
            eq("input", t.body(0, 9), LEFT);
            eq("input of the other", t.body(1, 9), RIGHT);
            eq("platform", t.platform(0, 5), 4);
            t.tick(2);
            t.predict(1, 0, 40, 0);
            eq("undo is still there", t.undo(), 4);
            eq("undo is still there", t.undo(), 3);
            forgotten("two ticks", t);
            TileRunners first = world("..o", FLAT);
            first.addBody(20, 16, 8, 8);
            first.addBody(60, 16, 8, 8);
            first.press(1, LEFT);
            first.predict(0, RIGHT, 40, 0);
            eq("coins of a prediction", first.statistic(0, 0), 0);
            eq("ticks of a prediction", first.statistic(0, 5), 0);
        });
        sentence("- `ticks`: the number of ticks, 1 to 40", () -> {
            TileRunners t = withBody(100, 16, 8, 8, FLAT);
            eq("one", t.predict(0, RIGHT, 1, 0), 102);
            eq("forty", t.predict(0, RIGHT, 40, 0), 100 + 2 + 4 + 38 * 5);
            eq("one", t.apex(0, JUMP, 1), 25);
            eq("forty", t.apex(0, JUMP, 40), 61);
            fails(ARGUMENT, "none", () -> t.predict(0, 0, 0, 0));
            fails(ARGUMENT, "41", () -> t.predict(0, 0, 41, 0));
            fails(ARGUMENT, "none", () -> t.apex(0, 0, 0));
            fails(ARGUMENT, "41", () -> t.apex(0, 0, 41));
        });
        sentence("Returns the greatest y that a body will have in the following ticks in which its input is a certain one,"
                + " its present y included.", () -> {
            TileRunners t = withBody(100, 16, 8, 8, FLAT);
            int[] due = {25, 33, 40, 46, 51, 55, 58, 60, 61, 61, 61, 61};
            for (int n = 1; n <= due.length; n++) {
                eq("in " + n + " ticks", t.apex(0, JUMP, n), due[n - 1]);
                eq("on the ground", t.apex(0, 0, n), 16);
            }
            TileRunners falls = withBody(100, 100, 8, 8, ".");
            eq("its present y", falls.apex(0, 0, 20), 100);
            falls.tick(1);
            eq("its present y, not that of before", falls.apex(0, 0, 10), 99);
            eq("nor is its input changed", falls.body(0, 9), 0);
        });
        sentence("6 for its greatest y behind a tick, or its y when it was added if there was no tick", () -> {
            TileRunners t = withBody(100, 16, 8, 8, FLAT);
            eq("no tick", t.statistic(0, 6), 16);
            t.press(0, JUMP);
            t.tick(30);
            eq("y", t.body(0, 1), 16);
            eq("greatest", t.statistic(0, 6), 61);
            TileRunners spikes = withBody(100, 20, 8, 8, "......x", ".", ".", ".");
            spikes.push(0, 0, 16);
            spikes.tick(1);
            eq("ahead of its death", spikes.statistic(0, 6), 35);
            spikes.push(0, 0, 16);
            spikes.tick(1);
            eq("deaths", spikes.statistic(0, 1), 1);
            eq("the y at which it died is none behind a tick", spikes.statistic(0, 6), 35);
        });
        sentence("4 for the unit moves that succeeded in steps 8 to 10 of its updates", () -> {
            TileRunners t = new TileRunners();
            t.addPlatform(60, 40, 40, 2, -2, 60);
            t.addBody(70, 40, 8, 8);
            t.tick(3);
            eq("carried is not moved", t.statistic(0, 4), 0);
            TileRunners wall = withBody(373, 16, 8, 8, FLAT);
            wall.push(0, 16, 0);
            wall.tick(2);
            eq("three to a wall", wall.statistic(0, 4), 3);
            TileRunners slope = withBody(28, 16, 4, 8, "../", FLAT);
            slope.push(0, 6, 0);
            slope.tick(1);
            place("up a slope", slope, 32, 19);
            eq("four, whatever they do to its height", slope.statistic(0, 4), 4);
        });
        sentence("Throws `ArithmeticException` if no tick has passed since it was added", () -> {
            TileRunners t = withBody(100, 16, 8, 8, FLAT);
            fails(ARITHMETIC, "no tick", () -> t.meanMoves(0));
            t.tick(1);
            yes("no moves", t.meanMoves(0) == 0f);
            t.addBody(100, 100, 8, 8);
            fails(ARITHMETIC, "no tick since", () -> t.meanMoves(1));
            t.press(0, RIGHT);
            t.tick(2);
            yes("6 moves in 3 ticks", t.meanMoves(0) == 2f);
            yes("3 moves in 2 ticks", t.meanMoves(1) == 1.5f);
            t.tick(4);
            yes("26 moves in 7 ticks", t.meanMoves(0) == 26f / 7f);
        });
    }

    // ---- Promises 30 to 35 ----

    private static void texts() {
        sentence("Throws `IllegalStateException` if the buffer contains 40 characters", () -> {
            TileRunners t = new TileRunners();
            eq("room", roomIn(t), 40);
            fails(INDEX, "emptying it", () -> t.play(0));
            eq("room", roomIn(t), 40);
        });
        sentence("Throws `IllegalStateException` if it has more signs than there are columns left, or a body would be blocked"
                + " then", () -> {
            for (int column = 0; column < 24; column++) {
                int from = column;
                TileRunners t = new TileRunners();
                write(t, "o".repeat(24 - column));
                eq("just as many", t.readTiles(from, 3), 24 - column);
                eq("first", t.tile(from, 3), 10);
                eq("last", t.tile(23, 3), 10);
                eq("coins", t.count(3), 24 - column);
                if (column > 0) {
                    write(t, "x".repeat(25 - column));
                    fails(STATE, "one more", () -> t.readTiles(from, 3));
                    eq("no fault", t.faultPosition(), -1);
                    eq("no spikes", t.tile(from, 3), 10);
                }
            }
            TileRunners t = withBody(40, 100, 8, 8, ".");
            write(t, "oo#oo");
            fails(STATE, "a body would be blocked by the third", () -> t.readTiles(0, 6));
            eq("no tile set", t.count(2), 0);
            write(t, "##o##");
            eq("beside a body", t.readTiles(0, 6), 5);
        });
        sentence("for each command, its input is set, and so many ticks pass, none for 0.", () -> {
            TileRunners t = withBody(100, 16, 8, 8, FLAT);
            write(t, "l0r00");
            eq("none", t.play(0), 0);
            eq("clock", t.clock(), 0);
            eq("the last input", t.body(0, 9), RIGHT);
            write(t, "n99r01l99r1");
            eq("200 ticks", t.play(0), 200);
            eq("clock", t.clock(), 200);
            write(t, "j99".repeat(2) + "r2l1");
            fails(UNSUPPORTED, "201 ticks", () -> t.play(0));
            eq("clock", t.clock(), 200);
            eq("input", t.body(0, 9), RIGHT);
            TileRunners jumps = withBody(100, 16, 8, 8, FLAT);
            write(jumps, "j1n0j1");
            eq("ticks", jumps.play(0), 2);
            eq("no tick between them, so it stays pressed", jumps.body(0, 3), 8);
        });
        sentence("Returns the fault position, or -1 if the text had no fault or there was no such call.", () -> {
            TileRunners t = new TileRunners();
            eq("no call", t.faultPosition(), -1);
            write(t, "q");
            fails(INDEX, "no such tile", () -> t.readTiles(0, 14));
            write(t, "q");
            fails(INDEX, "no such body", () -> t.play(0));
            eq("no such call", t.faultPosition(), -1);
            write(t, "##q");
            fails(ARGUMENT, "fault", () -> t.readTiles(0, 0));
            eq("fault", t.faultPosition(), 2);
            write(t, "qq");
            fails(INDEX, "no such tile", () -> t.readTiles(-1, 0));
            write(t, "qq");
            fails(INDEX, "no such body", () -> t.play(-1));
            eq("still of the latest such call", t.faultPosition(), 2);
            write(t, "##");
            t.readTiles(0, 0);
            eq("no fault", t.faultPosition(), -1);
            fails(ARGUMENT, "empty", () -> t.readTiles(0, 0));
            eq("empty", t.faultPosition(), 0);
            t.addBody(100, 100, 8, 8);
            write(t, "n0");
            t.play(0);
            eq("no fault of a play", t.faultPosition(), -1);
        });
    }

    private static void snapshots() {
        sentence("Saves the world with its settings and clock, in place of an earlier snapshot.", () -> {
            TileRunners t = withBody(100, 16, 8, 8, FLAT);
            t.save();
            t.press(0, RIGHT);
            t.tick(3);
            t.set(0, 9);
            t.save();
            t.tick(3);
            t.set(0, 2);
            t.restore();
            eq("clock of the later one", t.clock(), 3);
            place("the later one", t, 111, 16);
            eq("setting of the later one", t.set(0, 5), 9);
        });
        sentence("Restores what was saved; the snapshot is kept.", () -> {
            TileRunners t = new TileRunners();
            t.save();
            for (int again = 0; again < 3; again++) {
                for (int i = 0; i < 4; i++) {
                    t.addBody(20 * i, 100, 8, 8);
                    t.addPlatform(20 * i, 99, 16, 1, 1, 5);
                    t.set(i, 8);
                }
                t.setTile(20, 5, 10);
                t.tick(7);
                t.restore();
                for (int what = 0; what < 4; what++) {
                    eq("count of an empty world", t.count(what), 0);
                }
                int[] settings = {5, 10, 4, 3};
                for (int i = 0; i < 4; i++) {
                    eq("setting", t.set(i, 7), settings[i]);
                }
                eq("clock", t.clock(), 0);
                forgotten("restore", t);
            }
            TileRunners full = new TileRunners();
            for (int i = 0; i < 4; i++) {
                full.addBody(20 * i, 100, 8, 8);
                full.addPlatform(20 * i, 100, 16, 1, 1, 5);
            }
            full.tick(3);
            full.save();
            while (full.count(0) > 0) {
                full.removeBody(0);
                full.removePlatform(0);
            }
            full.restore();
            for (int i = 0; i < 4; i++) {
                eq("body", full.body(i, 0), 20 * i + 3);
                eq("platform", full.platform(i, 0), 20 * i + 3);
                eq("ticks left", full.platform(i, 5), 2);
            }
        });
        sentence("Throws `IllegalStateException` if there is no snapshot", () -> {
            TileRunners t = withBody(100, 100, 8, 8, ".");
            t.tick(2);
            fails(STATE, "restore", () -> t.restore());
            eq("nothing changed", t.undo(), 1);
            t.save();
            t.restore();
            eq("behind a save", t.clock(), 1);
        });
    }

    public static void main(String[] args) {
        makers();
        ticks();
        questions();
        predictions();
        texts();
        snapshots();
        finish("the promises' boundaries hold");
    }
}
