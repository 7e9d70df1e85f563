/** The sentences of the document on ticks and on updating a body that name a boundary, a test each. */
public final class TickTest extends Checks {

    // ---- A tick ----

    private static void platformsMove() {
        sentence("In a tick, the clock increases by 1, and the platforms move, in ascending order.", () -> {
            TileRunners t = new TileRunners();
            t.addPlatform(60, 38, 40, 0, 1, 60);
            t.addPlatform(60, 40, 40, 0, -2, 60);
            t.addBody(70, 40, 8, 8);
            eq("clock", t.tick(1), 1);
            place("set down on the one that moved before", t, 70, 39);
            TileRunners late = new TileRunners();
            late.addPlatform(60, 40, 40, 0, -2, 60);
            late.addPlatform(60, 38, 40, 0, 1, 60);
            late.addBody(70, 40, 8, 8);
            late.tick(1);
            place("the other one was not there yet", late, 70, 38);
        });
        sentence("Before that, it is noted for each body by which platform it is carried: the first one that supports it, if"
                + " its vertical speed is not greater than 0.", () -> carriers());
        sentence("each body that it carries is moved sideways by dx units, until a move fails, and then up by dy units until"
                + " it is blocked,", () -> {
            TileRunners t = new TileRunners();
            t.setTile(6, 2, 1);
            t.addPlatform(60, 40, 40, 2, 2, 60);
            t.addBody(87, 40, 8, 8);
            t.addBody(88, 40, 8, 7);
            t.addBody(60, 40, 8, 8);
            t.tick(1);
            place("one unit to the wall, and up", t, 88, 42);
            eq("no unit to the wall", t.body(1, 0), 88);
            eq("but up", t.body(1, 1), 42);
            eq("no wall", t.body(2, 0), 62);
            TileRunners ceiling = new TileRunners();
            ceiling.addPlatform(60, 40, 40, 0, 2, 60);
            ceiling.setTile(4, 3, 1);
            ceiling.addBody(64, 40, 8, 7);
            ceiling.tick(1);
            place("one unit to the ceiling, and one down again", ceiling, 64, 40);
            TileRunners touching = new TileRunners();
            touching.addPlatform(60, 40, 40, 0, 2, 60);
            touching.setTile(4, 3, 1);
            touching.addBody(64, 40, 8, 8);
            touching.tick(1);
            place("no unit to the ceiling", touching, 64, 39);
        });
        sentence("down by -dy units whether it is supported by this platform or not, until something else supports it;",
                () -> carriedDown());
        sentence("this is done before the platform itself moves.", () -> {
            TileRunners t = new TileRunners();
            t.addPlatform(60, 40, 16, 2, 0, 60);
            t.addPlatform(76, 39, 16, 0, 0, 60);
            t.addBody(75, 40, 4, 4);
            t.tick(1);
            place("off its old top, and a step down", t, 77, 39);
        });
        sentence("Then the bodies are updated, in ascending order.", () -> {
            TileRunners t = world("..o", FLAT);
            t.addBody(20, 16, 8, 8);
            t.addBody(20, 16, 8, 8);
            t.push(0, 10, 0);
            t.push(1, 10, 0);
            t.tick(1);
            eq("coins of the first", t.statistic(0, 0), 1);
            eq("coins of the second", t.statistic(1, 0), 0);
        });
    }

    private static void carriers() {
        TileRunners two = new TileRunners();
        two.addPlatform(60, 40, 40, 1, 0, 60);
        two.addPlatform(60, 40, 40, -2, 0, 60);
        two.addBody(70, 40, 8, 8);
        two.tick(1);
        place("the first one", two, 71, 40);
        TileRunners second = new TileRunners();
        second.addPlatform(200, 40, 40, 1, 0, 60);
        second.addPlatform(60, 40, 40, -2, 0, 60);
        second.addBody(70, 40, 8, 8);
        second.tick(1);
        place("the first one that supports it", second, 68, 40);
        TileRunners noted = new TileRunners();
        noted.addPlatform(60, 38, 40, -1, 2, 60);
        noted.addPlatform(60, 40, 40, 2, 0, 60);
        noted.addBody(70, 40, 8, 8);
        noted.tick(1);
        place("not one that comes to it", noted, 72, 40);
        TileRunners once = new TileRunners();
        once.addPlatform(60, 40, 40, 0, 1, 60);
        once.addPlatform(60, 41, 40, 2, 0, 60);
        once.addBody(70, 40, 8, 8);
        once.tick(1);
        place("not one to which it is carried", once, 70, 41);
        int[][] speeds = {{-12, 72}, {-1, 72}, {0, 72}, {1, 70}, {16, 70}};
        for (int[] s : speeds) {
            TileRunners t = new TileRunners();
            t.addPlatform(60, 40, 40, 2, 0, 60);
            t.addBody(70, 40, 8, 8);
            t.push(0, 0, s[0]);
            t.tick(1);
            eq("x with the vertical speed " + s[0], t.body(0, 0), s[1]);
        }
        TileRunners ground = world(FLAT);
        ground.addPlatform(60, 16, 40, 2, 0, 60);
        ground.addBody(70, 16, 8, 8);
        ground.tick(1);
        place("on ground, too", ground, 72, 16);
    }

    private static void carriedDown() {
        TileRunners t = new TileRunners();
        t.addPlatform(60, 40, 40, 0, -2, 60);
        t.addBody(70, 40, 8, 8);
        t.tick(1);
        place("two units", t, 70, 38);
        TileRunners one = world(FLAT);
        one.addPlatform(60, 17, 40, 0, -2, 60);
        one.addBody(70, 17, 8, 8);
        one.tick(1);
        place("one unit to the ground", one, 70, 16);
        TileRunners none = world(FLAT);
        none.addPlatform(60, 16, 40, 0, -2, 60);
        none.addBody(70, 16, 8, 8);
        none.tick(1);
        place("on the ground already", none, 70, 16);
        TileRunners edge = new TileRunners();
        edge.addPlatform(60, 40, 16, 2, -2, 60);
        edge.addBody(75, 40, 4, 4);
        edge.tick(1);
        place("not supported by it any more, but carried down", edge, 77, 38);
        eq("and on it again", edge.support(0), 8);
        TileRunners floor = world("....=", ".");
        floor.addPlatform(60, 33, 40, 0, -2, 60);
        floor.addBody(70, 33, 8, 8);
        floor.tick(1);
        place("one unit to a floor", floor, 70, 32);
    }

    // ---- Updating a body: steps 1 to 3 ----

    private static void counters() {
        sentence("(1) It stands if it is supported and its vertical speed is not greater than 0.", () -> {
            TileRunners t = withBody(100, 16, 8, 8, FLAT);
            int[][] due = {{-12, 1}, {-1, 1}, {0, 1}, {1, 0}, {16, 0}};
            for (int[] d : due) {
                t.push(0, 0, d[0]);
                eq("with the speed " + d[0], t.stands(0) ? 1 : 0, d[1]);
            }
            t.setTile(6, 0, 0);
            t.push(0, 0, 0);
            no("without support", t.stands(0));
        });
        sentence("If it stands, its late counter becomes the late time; otherwise the late counter decreases by 1 if it is"
                + " greater than 0.", () -> {
            for (int time = 0; time <= 10; time++) {
                TileRunners t = withBody(100, 16, 8, 8, FLAT);
                t.set(2, time);
                t.tick(1);
                eq("late time", t.body(0, 4), time);
                t.push(0, 0, 16);
                for (int n = 1; n <= 12; n++) {
                    t.tick(1);
                    eq("late counter", t.body(0, 4), Math.max(0, time - n));
                }
            }
        });
        sentence("(2) If jump is pressed now and was not in the tick before, its buffer counter becomes the buffer time;"
                + " otherwise it decreases by 1 if it is greater than 0.", () -> {
            for (int time = 1; time <= 10; time++) {
                TileRunners t = withBody(100, 223, 8, 8, ".");
                t.set(3, time);
                t.press(0, JUMP);
                for (int n = 0; n < 12; n++) {
                    t.tick(1);
                    eq("buffer counter", t.body(0, 5), Math.max(0, time - n));
                }
                step(t, 0);
                step(t, JUMP);
                eq("pressed anew", t.body(0, 5), time);
                step(t, 0);
                eq("let go", t.body(0, 5), time - 1);
                step(t, JUMP + LEFT);
                eq("pressed anew ahead of 0", t.body(0, 5), time);
            }
        });
        sentence("(3) Its drop counter decreases by 1 if it is greater than 0.", () -> {
            TileRunners t = withBody(40, 176, 8, 8, "..=", ".", ".", ".", ".", ".", ".", ".", ".", ".", ".");
            step(t, DOWN + JUMP);
            for (int n = 8; n >= -2; n--) {
                eq("drop counter", t.body(0, 6), Math.max(0, n));
                t.tick(1);
            }
        });
        sentence("If it stands, is not supported by ground or slopes, and down is pressed and the buffer counter is greater"
                + " than 0, then the drop counter becomes 8, the buffer counter and the late counter 0, and it does not stand"
                + " any more.", () -> dropsBegin());
    }

    private static int dropBehind(TileRunners t, int keys) {
        step(t, keys);
        return t.body(0, 6);
    }

    private static void dropsBegin() {
        TileRunners t = withBody(36, 48, 8, 8, "..=", ".", ".");
        t.tick(1);
        eq("all is fulfilled", dropBehind(t, DOWN + JUMP), 8);
        eq("buffer counter", t.body(0, 5), 0);
        eq("late counter", t.body(0, 4), 0);
        speeds("it falls in the same tick", t, 0, -1);
        eq("without down", dropBehind(withBody(36, 16, 8, 8, "..="), JUMP), 0);
        eq("left and jump", dropBehind(withBody(36, 16, 8, 8, "..="), LEFT + JUMP), 0);
        eq("without jump", dropBehind(withBody(36, 16, 8, 8, "..="), DOWN), 0);
        eq("all keys", dropBehind(withBody(36, 16, 8, 8, "..="), 15), 8);
        eq("on ground, too", dropBehind(withBody(44, 16, 8, 8, "..=#"), DOWN + JUMP), 0);
        TileRunners rising = withBody(36, 16, 8, 8, "..=");
        rising.push(0, 0, 1);
        eq("not standing", dropBehind(rising, DOWN + JUMP), 0);
        TileRunners slope = withBody(36, 9, 8, 8, "../");
        slope.addPlatform(30, 9, 20, 0, 0, 60);
        eq("on a slope and a platform", slope.support(0), 12);
        eq("on a slope, too", dropBehind(slope, DOWN + JUMP), 0);
        TileRunners platform = new TileRunners();
        platform.addPlatform(30, 9, 20, 0, 0, 60);
        platform.addBody(36, 9, 8, 8);
        eq("on a platform", dropBehind(platform, DOWN + JUMP), 8);
        TileRunners last = withBody(36, 16, 8, 8, "..=");
        last.set(2, 0);
        step(last, JUMP);
        step(last, JUMP);
        eq("with the last buffer", last.body(0, 5), 2);
        eq("the buffer counter 1 is enough", dropBehind(last, DOWN), 8);
        TileRunners over = withBody(36, 16, 8, 8, "..=");
        over.set(2, 0);
        over.press(0, JUMP);
        over.tick(3);
        eq("the buffer counter 0 is not", dropBehind(over, DOWN + JUMP), 0);
        TileRunners again = withBody(36, 16, 8, 8, "..=");
        again.addPlatform(30, 15, 20, 0, 0, 60);
        step(again, DOWN + JUMP);
        step(again, 0);
        eq("a body that drops does not drop anew", dropBehind(again, DOWN + JUMP), 6);
    }

    // ---- Step 4 ----

    /** The horizontal speed behind one tick on flat ground, on ice, or in the air. */
    private static int speedBehind(int before, int keys, String rows, int y) {
        TileRunners t = withBody(180, y, 8, 8, rows);
        t.push(0, before, 0);
        step(t, keys);
        return t.body(0, 2);
    }

    private static void checkSpeeds(String where, String rows, int y, int keys, int[][] due) {
        for (int[] d : due) {
            eq("from " + d[0] + " with keys " + keys + " " + where, speedBehind(d[0], keys, rows, y), d[1]);
        }
    }

    private static void running() {
        sentence("(4) Let d be 1 if right, but not left, is pressed, -1 if left, but not right, is pressed, and 0"
                + " otherwise.", () -> {
            int[] due = {0, -2, 2, 0};
            for (int keys = 0; keys < 16; keys += 1) {
                if ((keys & JUMP) == 0) {
                    eq("keys " + keys, speedBehind(0, keys, FLAT, 16), due[keys & 3]);
                }
            }
        });
        sentence("If d is not 0, its horizontal speed changes by d times 2 if it stands, but not on ice, and by d otherwise,"
                + " but not beyond the run speed;", () -> {
            int[][] right = {{-16, -14}, {-6, -4}, {-1, 1}, {0, 2}, {2, 4}, {3, 5}, {4, 5}, {5, 5}};
            checkSpeeds("on ground", FLAT, 16, RIGHT, right);
            int[][] left = {{16, 14}, {6, 4}, {1, -1}, {0, -2}, {-2, -4}, {-3, -5}, {-4, -5}, {-5, -5}};
            checkSpeeds("on ground", FLAT, 16, LEFT, left);
            int[][] slowRight = {{-16, -15}, {-6, -5}, {0, 1}, {3, 4}, {4, 5}, {5, 5}};
            checkSpeeds("in the air", ".", 100, RIGHT, slowRight);
            checkSpeeds("on ice", "iiiiiiiiiiiiiiiiiiiiiiii", 16, RIGHT, slowRight);
            int[][] slowLeft = {{16, 15}, {6, 5}, {0, -1}, {-3, -4}, {-4, -5}, {-5, -5}};
            checkSpeeds("in the air", ".", 100, LEFT, slowLeft);
            checkSpeeds("on ice", "iiiiiiiiiiiiiiiiiiiiiiii", 16, LEFT, slowLeft);
            int[] runSpeeds = {1, 10};
            for (int runSpeed : runSpeeds) {
                TileRunners t = withBody(180, 16, 8, 8, FLAT);
                t.set(0, runSpeed);
                t.press(0, RIGHT);
                t.tick(6);
                eq("run speed " + runSpeed, t.body(0, 2), runSpeed);
                t.press(0, LEFT);
                t.tick(11);
                eq("run speed to the left " + runSpeed, t.body(0, 2), -runSpeed);
            }
        });
        sentence("if it was beyond the run speed already in this direction, it stays.", () -> {
            int[][] right = {{6, 6}, {16, 16}};
            int[][] left = {{-6, -6}, {-16, -16}};
            checkSpeeds("on ground", FLAT, 16, RIGHT, right);
            checkSpeeds("on ground", FLAT, 16, LEFT, left);
            checkSpeeds("in the air", ".", 100, RIGHT, right);
            checkSpeeds("in the air", ".", 100, LEFT, left);
        });
        sentence("If d is 0 and it stands, but not on ice, its horizontal speed gets closer to 0 by 2, or becomes 0.", () -> {
            int[][] slower = {{16, 14}, {3, 1}, {2, 0}, {1, 0}, {0, 0}, {-1, 0}, {-2, 0}, {-3, -1}, {-16, -14}};
            checkSpeeds("on ground", FLAT, 16, 0, slower);
            checkSpeeds("on ground", FLAT, 16, LEFT + RIGHT, slower);
            int[][] same = {{16, 16}, {2, 2}, {1, 1}, {0, 0}, {-1, -1}, {-2, -2}, {-16, -16}};
            checkSpeeds("in the air", ".", 100, 0, same);
            checkSpeeds("on ice", "iiiiiiiiiiiiiiiiiiiiiiii", 16, LEFT + RIGHT, same);
        });
        sentence("A body is on ice if ground supports it and all firm cells below it are ice.", () -> {
            String[] rows = {"..ii", "..i.", "...i", "..i#", "..>i", "..i=", "..i/", "..==", "..=.", "..##"};
            int[] due = {1, 1, 1, 2, 2, 1, 1, 2, 2, 2};
            for (int i = 0; i < rows.length; i++) {
                TileRunners t = withBody(44, 16, 8, 8, rows[i]);
                step(t, RIGHT);
                eq("speed on " + rows[i], t.body(0, 2), due[i]);
            }
            TileRunners platform = new TileRunners();
            platform.addPlatform(40, 16, 16, 0, 0, 60);
            platform.addBody(44, 16, 8, 8);
            step(platform, RIGHT);
            eq("speed on a platform", platform.body(0, 2), 2);
            TileRunners slope = withBody(36, 9, 8, 8, "../");
            step(slope, RIGHT);
            eq("speed on a slope", slope.body(0, 2), 2);
        });
        sentence("The firm cells below a body are those that would support it as ground.", () -> {
            TileRunners t = withBody(74, 32, 12, 8, ".....i/", "....i#i");
            eq("of the row below", t.below(0), 32);
            t.setTile(4, 1, 1);
            eq("of both columns", t.below(0), 2 + 32);
            t.addBody(90, 25, 12, 8);
            eq("none of the row of the slope of its foot", t.below(1), 0);
        });
    }

    // ---- Steps 5 and 6 ----

    private static void jumps() {
        sentence("(5) If the buffer counter is greater than 0 and the late counter, too, it jumps: the vertical speed becomes"
                + " the jump speed, both counters become 0, and it does not stand any more.", () -> jumpsFromTheGround());
        sentence("Otherwise, if the buffer counter is greater than 0 and it does not stand, it jumps off a wall if it would"
                + " be blocked one unit to the right or to the left:", () -> jumpsOffWalls());
        sentence("the horizontal speed becomes the run speed away from the wall, where the right wall comes first, and the"
                + " buffer counter becomes 0.", () -> {
            TileRunners t = new TileRunners();
            t.setTile(5, 6, 1);
            t.setTile(7, 6, 1);
            t.addBody(96, 102, 16, 8);
            t.push(0, 0, 16);
            step(t, JUMP);
            eq("jumps between two walls", t.statistic(0, 2), 1);
            eq("buffer counter", t.body(0, 5), 0);
            TileRunners up = new TileRunners();
            up.setTile(5, 6, 1);
            up.setTile(7, 6, 1);
            up.addBody(96, 88, 16, 9);
            step(up, JUMP);
            speeds("stopped by the left wall", up, 0, 9);
            up.removeBody(0);
            up.setTile(5, 6, 3);
            up.addBody(96, 100, 16, 9);
            up.set(0, 1);
            step(up, JUMP);
            eq("with the run speed 1", up.body(0, 0), 95);
            TileRunners fast = new TileRunners();
            fast.set(0, 10);
            fast.addBody(0, 100, 8, 8);
            fast.push(0, -16, 0);
            step(fast, JUMP);
            speeds("with the run speed 10, whatever it was", fast, 10, 9);
            eq("x", fast.body(0, 0), 10);
            step(fast, 0);
            eq("jumps", fast.statistic(0, 2), 1);
        });
        sentence("(6) It rises by its own from a jump in step 5 on until its vertical speed is not greater than 0 at the end"
                + " of a tick, or push is called for it, or it dies.", () -> risesEnd());
        sentence("If it rises by its own, its vertical speed is greater than 4, and jump is not pressed, the vertical speed"
                + " becomes 4.", () -> {
            int[][] due = {{5, 1, 3}, {6, 1, 3}, {6, 2, 3}, {7, 2, 3}, {16, 1, 3}, {16, 11, 3}, {16, 12, 3}, {16, 13, 2}};
            for (int[] d : due) {
                TileRunners t = withBody(100, 16, 8, 8, FLAT);
                t.set(1, d[0]);
                t.press(0, JUMP);
                t.tick(d[1]);
                step(t, DOWN);
                eq("jump speed " + d[0] + ", held for " + d[1], t.body(0, 3), d[2]);
            }
        });
    }

    private static void jumpsFromTheGround() {
        for (int speed = 5; speed <= 16; speed++) {
            TileRunners t = withBody(100, 16, 8, 8, FLAT);
            t.set(1, speed);
            step(t, JUMP);
            place("jump", t, 100, 16 + speed - 1);
            speeds("jump", t, 0, speed - 1);
            eq("late counter", t.body(0, 4), 0);
            eq("buffer counter", t.body(0, 5), 0);
        }
        TileRunners twice = withBody(100, 16, 8, 8, FLAT);
        step(twice, JUMP);
        step(twice, 0);
        step(twice, JUMP);
        eq("no second jump in the air", twice.statistic(0, 2), 1);
        for (int wait = 0; wait <= 5; wait++) {
            TileRunners late = withBody(100, 16, 8, 8, FLAT);
            late.tick(1);
            late.push(0, 0, 16);
            for (int n = 0; n < wait; n++) {
                late.tick(1);
            }
            step(late, JUMP);
            eq("jumps with the late counter " + (3 - wait), late.statistic(0, 2), wait <= 2 ? 1 : 0);
        }
        for (int wait = 0; wait <= 4; wait++) {
            TileRunners early = withBody(100, 16 + wait * (wait + 1) / 2, 8, 8, FLAT);
            step(early, JUMP);
            early.tick(Math.max(1, wait));
            eq("jumps with the buffer counter " + (3 - wait), early.statistic(0, 2), wait <= 2 ? 1 : 0);
        }
        TileRunners held = withBody(100, 16, 8, 8, FLAT);
        held.set(2, 0);
        step(held, JUMP);
        eq("no jump with the late time 0", held.statistic(0, 2), 0);
        eq("the buffer stays", held.body(0, 5), 3);
    }

    private static void jumpsOffWalls() {
        int[][] due = {{72, 1}, {71, 0}, {96, 1}, {97, 0}};
        for (int[] d : due) {
            for (int kind : new int[] {1, 5, 6, 7, 8}) {
                TileRunners t = new TileRunners();
                t.setTile(5, 6, kind);
                t.addBody(d[0], 100, 8, 8);
                step(t, JUMP);
                eq("jumps at " + d[0], t.statistic(0, 2), d[1]);
                eq("vertical speed", t.body(0, 3), d[1] == 1 ? 9 : -1);
                eq("horizontal speed", t.body(0, 2), d[1] == 0 ? 0 : d[0] < 80 ? -5 : 5);
                eq("buffer counter", t.body(0, 5), d[1] == 1 ? 0 : 3);
            }
        }
        TileRunners stands = withBody(0, 16, 8, 8, FLAT);
        stands.set(2, 0);
        step(stands, JUMP);
        eq("not while it stands", stands.statistic(0, 2), 0);
        stands.push(0, 0, 1);
        stands.tick(1);
        eq("but while it rises, though supported", stands.statistic(0, 2), 1);
        speeds("off the wall", stands, 5, 9);
        TileRunners last = withBody(0, 100, 8, 8, ".");
        last.push(0, 6, 0);
        step(last, JUMP);
        last.push(0, -6, 0);
        last.tick(1);
        eq("at the wall", last.body(0, 0), 0);
        last.tick(1);
        eq("jumps with the last buffer", last.statistic(0, 2), 1);
        TileRunners lateFirst = withBody(0, 16, 8, 8, FLAT);
        lateFirst.press(0, JUMP);
        lateFirst.tick(1);
        eq("with the late counter it is no jump off the wall", lateFirst.body(0, 2), 0);
    }

    private static void risesEnd() {
        TileRunners pushed = withBody(100, 16, 8, 8, FLAT);
        step(pushed, JUMP);
        pushed.push(0, 0, 16);
        step(pushed, 0);
        eq("behind a push", pushed.body(0, 3), 15);
        TileRunners refused = withBody(100, 16, 8, 8, FLAT);
        step(refused, JUMP);
        fails(ARGUMENT, "push", () -> refused.push(0, 0, 17));
        step(refused, 0);
        eq("behind a refused push", refused.body(0, 3), 3);
        TileRunners top = withBody(20, 16, 8, 8, ".^^");
        step(top, JUMP);
        eq("ticks of the jump", top.tickUntilStanding(0, 40), 18);
        step(top, 0);
        eq("sprung behind a jump", top.body(0, 3), 16);
        step(top, 0);
        eq("not cut", top.body(0, 3), 15);
        // It bumps its head at once, glides with the speed 0 at its end over the gap, and onto the spring.
        TileRunners bumped = withBody(44, 16, 4, 16, "..##", ".", "..#.^^");
        bumped.push(0, 11, 0);
        step(bumped, JUMP + RIGHT);
        place("bumped", bumped, 55, 16);
        speeds("bumped", bumped, 11, 0);
        step(bumped, RIGHT);
        place("on the spring", bumped, 66, 16);
        eq("sprung", bumped.body(0, 3), 16);
        step(bumped, RIGHT);
        eq("a rise that ended with the speed 0 is not cut", bumped.body(0, 3), 15);
        TileRunners other = withBody(80, 16, 8, 8, "..^..#");
        step(other, JUMP);
        other.removeBody(0);
        other.addBody(28, 16, 4, 4);
        step(other, RIGHT);
        place("a new body in place of one that rose, onto a spring", other, 29, 16);
        step(other, 0);
        eq("not cut", other.body(0, 3), 15);
        TileRunners killed = withBody(100, 16, 8, 8, "......x.", ".", FLAT);
        step(killed, JUMP);
        step(killed, JUMP);
        eq("dead at the end of a rise", killed.statistic(0, 1), 1);
        speeds("dead", killed, 0, 0);
    }

    // ---- Steps 7 to 12 ----

    private static void falling() {
        sentence("(7) If it does not stand, its vertical speed decreases by 1, but not below -12;", () -> {
            int[][] due = {{16, 15}, {1, 0}, {0, -1}, {-10, -11}, {-11, -12}, {-12, -12}};
            for (int[] d : due) {
                TileRunners t = withBody(100, 100, 8, 8, ".");
                t.push(0, 0, d[0]);
                t.tick(1);
                eq("from " + d[0], t.body(0, 3), d[1]);
                eq("y from " + d[0], t.body(0, 1), 100 + d[1]);
            }
            TileRunners stands = withBody(100, 16, 8, 8, FLAT);
            stands.tick(1);
            eq("it stands", stands.body(0, 3), 0);
        });
        sentence("if d is not 0, it would be blocked one unit in the direction of d, and the vertical speed is less than -3,"
                + " it becomes -3.", () -> {
            int[][] due = {{376, RIGHT, -12, -3}, {376, RIGHT, -3, -3}, {376, RIGHT, -2, -3}, {376, RIGHT, -1, -2},
                {376, LEFT, -12, -12}, {376, 0, -12, -12}, {376, LEFT + RIGHT, -12, -12}, {370, RIGHT, -12, -12},
                {0, LEFT, -12, -3}, {0, LEFT, -3, -3}, {0, LEFT, -2, -3}, {0, LEFT, -1, -2}, {0, RIGHT, -12, -12},
                {1, LEFT, -12, -12}, {375, RIGHT, -12, -12}};
            for (int[] d : due) {
                TileRunners t = withBody(d[0], 100, 8, 8, ".");
                t.push(0, 0, d[2]);
                step(t, d[1]);
                eq("at " + d[0] + " with keys " + d[1] + " from " + d[2], t.body(0, 3), d[3]);
            }
        });
        sentence("(8) If it stands, it is moved sideways by one unit to the right if there is a belt to the right among the"
                + " firm cells below it, and then by one unit to the left if there was a belt to the left among those.",
                () -> belts());
        sentence("(9) It is moved sideways, one unit after the other, by its horizontal speed; if a move fails, the horizontal"
                + " speed becomes 0, and it is moved no further.", () -> {
            int[][] due = {{16, 116, 16}, {12, 112, 12}, {-16, 84, -16}, {0, 100, 0}};
            for (int[] d : due) {
                TileRunners t = withBody(100, 100, 8, 8, ".");
                t.push(0, d[0], 0);
                t.tick(1);
                place("by " + d[0], t, d[1], 99);
                eq("speed", t.body(0, 2), d[2]);
            }
            TileRunners wall = withBody(368, 100, 8, 8, ".");
            wall.push(0, 8, 0);
            wall.tick(1);
            speeds("just to the wall", wall, 8, -1);
            wall.tick(1);
            speeds("not one unit more", wall, 0, -2);
            eq("moves", wall.statistic(0, 4), 8 + 1 + 2);
            TileRunners stopped = withBody(367, 100, 8, 8, ".");
            stopped.push(0, 16, 0);
            stopped.tick(1);
            place("to the wall", stopped, 376, 99);
            speeds("at the wall", stopped, 0, -1);
            eq("moves", stopped.statistic(0, 4), 9 + 1);
        });
        sentence("(10) It is moved up or down, one unit after the other, by its vertical speed. If it cannot be moved up, the"
                + " vertical speed becomes 0.", () -> {
            TileRunners t = withBody(100, 100, 8, 12, ".");
            t.setTile(6, 8, 1);
            t.push(0, 0, 16);
            t.tick(1);
            place("just to the ceiling", t, 100, 115);
            eq("speed", t.body(0, 3), 15);
            t.tick(1);
            place("up to the ceiling", t, 100, 116);
            eq("speed", t.body(0, 3), 0);
            eq("moves", t.statistic(0, 4), 16);
            t.tick(1);
            place("down from it", t, 100, 115);
        });
        sentence("If it cannot be moved down by a unit by which it should be, it lands: the vertical speed becomes 0, or, if"
                + " one of the firm cells below it is a spring, 16, which is not a jump of its own.", () -> landings());
    }

    private static void belts() {
        String[] rows = {"..>>", "..>.", "...>", "..<<", "..><", "..<>", "..>#", "..#.", "..=>"};
        int[] x = {45, 45, 45, 43, 44, 44, 45, 44, 45};
        int[] moves = {1, 1, 1, 1, 2, 2, 1, 0, 1};
        for (int i = 0; i < rows.length; i++) {
            TileRunners t = withBody(44, 16, 8, 8, rows[i]);
            t.tick(1);
            eq("x on " + rows[i], t.body(0, 0), x[i]);
            eq("moves on " + rows[i], t.statistic(0, 4), moves[i]);
            eq("speed on " + rows[i], t.body(0, 2), 0);
        }
        TileRunners there = withBody(40, 16, 8, 8, "..><");
        there.tick(1);
        eq("the left belt was not among those", there.body(0, 0), 41);
        TileRunners wall = withBody(376, 16, 8, 8, ">>>>>>>>>>>>>>>>>>>>>>>>");
        wall.push(0, -3, 0);
        wall.tick(1);
        eq("a belt towards a wall, and a speed away from it", wall.body(0, 0), 375);
        eq("moves", wall.statistic(0, 4), 1);
        TileRunners rising = withBody(40, 16, 8, 8, "..>");
        rising.push(0, 0, 1);
        rising.tick(1);
        eq("no belt while it does not stand", rising.body(0, 0), 40);
        TileRunners late = withBody(40, 16, 8, 8, "..>");
        late.set(2, 0);
        step(late, JUMP);
        eq("it stands, as it cannot jump", late.body(0, 0), 41);
    }

    private static void landings() {
        int[][] due = {{16, -12, 0, 1}, {16, -1, 0, 1}, {16, 0, 0, 0}, {17, -12, 0, 1}, {17, 0, -1, 0}, {18, -1, -2, 0},
            {18, 0, -1, 0}, {27, -11, 0, 1}, {28, -11, -12, 0}};
        for (int[] d : due) {
            TileRunners t = withBody(100, d[0], 8, 8, FLAT);
            t.push(0, 0, d[1]);
            t.tick(1);
            eq("speed from " + d[0] + " with " + d[1], t.body(0, 3), d[2]);
            eq("landings from " + d[0] + " with " + d[1], t.statistic(0, 3), d[3]);
        }
        String[] rows = {"..^.", "...^", "..#^", "..=^", "..^i", "..==", "..#."};
        int[] speeds = {16, 16, 16, 16, 16, 0, 0};
        for (int i = 0; i < rows.length; i++) {
            TileRunners t = withBody(44, 17, 8, 8, rows[i]);
            t.push(0, 0, -1);
            t.tick(1);
            eq("speed on " + rows[i], t.body(0, 3), speeds[i]);
            eq("landings on " + rows[i], t.statistic(0, 3), 1);
            eq("jumps on " + rows[i], t.statistic(0, 2), 0);
            t.tick(1);
            eq("no jump of its own on " + rows[i], t.body(0, 3), speeds[i] == 16 ? 15 : 0);
        }
    }

    private static void endOfUpdates() {
        sentence("(11) All coin tiles of which it covers a cell become empty, and are counted for it.", () -> {
            TileRunners t = withBody(8, 10, 16, 28, "ooo", "ooo", "ooo", "ooo");
            t.push(0, 0, 1);
            t.tick(1);
            eq("coins", t.statistic(0, 0), 6);
            eq("left", t.count(3), 6);
            int[][] due = {{76, 1}, {75, 0}, {95, 1}, {96, 0}};
            for (int[] d : due) {
                TileRunners one = withBody(d[0], 90, 5, 5, ".");
                one.setTile(5, 5, 10);
                one.push(0, 0, 1);
                one.tick(1);
                eq("coins at " + d[0], one.statistic(0, 0), d[1]);
                eq("tile", one.tile(5, 5), d[1] == 1 ? 0 : 10);
            }
        });
        sentence("If it covers a cell of spikes, or its y is less than -40, it dies: its position becomes that at which it"
                + " was added, even if it is blocked there, and all its counters and speeds become 0.", () -> deaths());
        sentence("(12) The input is kept as that of the tick before.", () -> {
            TileRunners t = withBody(100, 100, 8, 8, ".");
            step(t, JUMP);
            t.press(0, 0);
            t.press(0, JUMP);
            t.tick(1);
            eq("pressed in the tick before", t.body(0, 5), 2);
            step(t, 0);
            step(t, JUMP);
            eq("not pressed in the tick before", t.body(0, 5), 3);
        });
    }

    private static void deaths() {
        int[][] due = {{76, 1}, {75, 0}, {95, 1}, {96, 0}};
        for (int[] d : due) {
            TileRunners t = withBody(d[0], 90, 5, 5, ".");
            t.setTile(5, 5, 9);
            t.push(0, 0, 1);
            t.tick(1);
            eq("deaths at " + d[0], t.statistic(0, 1), d[1]);
        }
        TileRunners deep = withBody(100, 0, 8, 8, ".");
        deep.push(0, 0, -12);
        deep.tick(3);
        deep.push(0, 0, -3);
        deep.tick(1);
        eq("y -40", deep.body(0, 1), -40);
        eq("is alive", deep.statistic(0, 1), 0);
        deep.push(0, 7, 0);
        step(deep, JUMP + RIGHT);
        place("y -41 is not", deep, 100, 0);
        for (int what = 2; what <= 6; what++) {
            eq("number " + what + " of the dead", deep.body(0, what), 0);
        }
        eq("deaths", deep.statistic(0, 1), 1);
        TileRunners walled = withBody(100, 48, 8, 8, "......=", "......x");
        walled.tickUntilStanding(0, 40);
        walled.setTile(6, 3, 1);
        step(walled, DOWN + JUMP);
        walled.tick(4);
        eq("drop counter", walled.body(0, 6), 4);
        walled.tick(1);
        place("where it was added, in a wall", walled, 100, 48);
        yes("blocked", walled.isBlocked(0, 0, 0));
        eq("drop counter of the dead", walled.body(0, 6), 0);
        TileRunners coin = withBody(60, 16, 16, 8, "...xo", FLAT);
        coin.tick(1);
        eq("a coin counts for a body that dies", coin.statistic(0, 0), 1);
        eq("and it dies", coin.statistic(0, 1), 1);
    }

    public static void main(String[] args) {
        platformsMove();
        counters();
        running();
        jumps();
        falling();
        endOfUpdates();
        finish("the boundaries of a tick hold");
    }
}
