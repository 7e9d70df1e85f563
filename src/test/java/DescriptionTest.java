/** The sentences of the document's description that name a boundary, a test each: tiles, boxes, support and moves. */
public final class DescriptionTest extends Checks {
    private static final int[] FIRM = {1, 5, 6, 7, 8};

    private static boolean isFirm(int kind) {
        for (int firm : FIRM) {
            if (firm == kind) {
                return true;
            }
        }
        return false;
    }

    /** Whether the first body would be blocked with its lower left cell at x,y. */
    private static boolean blockedAt(TileRunners t, int x, int y) {
        return t.isBlocked(0, x - t.body(0, 0), y - t.body(0, 1));
    }

    /** What supports a new body there, which is removed again. */
    private static int supportAt(TileRunners t, int x, int y, int width, int height) {
        int body = t.addBody(x, y, width, height);
        int support = t.support(body);
        t.removeBody(body);
        return support;
    }

    // ---- Tiles ----

    private static void tiles() {
        sentence("The world has 24 columns and 14 rows of tiles; column 0 is on the left, row 0 at the bottom.", () -> {
            TileRunners t = new TileRunners();
            eq("the last column and row", t.setTile(23, 13, 9), 0);
            fails(INDEX, "column 24", () -> t.setTile(24, 13, 9));
            fails(INDEX, "row 14", () -> t.setTile(23, 14, 9));
            t.setTile(0, 0, 10);
            eq("lower left", t.look(0, 0), 10);
            eq("upper right", t.look(383, 223), 9);
            eq("lower right", t.look(383, 0), 0);
            eq("upper left", t.look(0, 223), 0);
        });
        sentence("cell x,y with x from 0 to 383 lies in the tile of column x / 16 and row y / 16, rounded down.", () -> {
            TileRunners t = new TileRunners();
            t.setTile(5, 7, 9);
            eq("first cell", t.look(80, 112), 9);
            eq("last cell", t.look(95, 127), 9);
            eq("left of it", t.look(79, 112), 0);
            eq("right of it", t.look(96, 127), 0);
            eq("below it", t.look(80, 111), 0);
            eq("above it", t.look(95, 128), 0);
        });
        sentence("The kinds 1, 5, 6, 7 and 8 are firm.", () -> {
            for (int kind = 0; kind <= 10; kind++) {
                TileRunners t = withBody(80, 48, 8, 8);
                t.setTile(5, 5, kind);
                eq("kind " + kind + " blocks", t.isBlocked(0, 0, 30) ? 1 : 0, isFirm(kind) ? 1 : 0);
                eq("kind " + kind + " supports as ground", supportAt(t, 92, 96, 16, 8) & 1, isFirm(kind) ? 1 : 0);
                boolean endsRay = isFirm(kind) || kind == 3 || kind == 4;
                eq("kind " + kind + " ends a ray", t.ray(95, 50, 1), endsRay ? 30 : -1);
            }
        });
        sentence("All cells to the left of x = 0 and to the right of x = 383 are firm and of kind 1, whatever their y;",
                () -> besideTheWorld());
        sentence("all other cells above and below the rows are empty.", () -> {
            TileRunners t = world(FLAT, FLAT, FLAT, FLAT, FLAT, FLAT, FLAT, FLAT, FLAT, FLAT, FLAT, FLAT, FLAT);
            t.addBody(100, 208, 16, 8);
            yes("in the highest firm row", blockedAt(t, 100, 207));
            no("in and above the free row", blockedAt(t, 100, 216));
            no("above the rows", blockedAt(t, 100, 224));
            no("far above", blockedAt(t, 100, 608));
            yes("in the lowest cells", blockedAt(t, 100, -7));
            no("below the rows", blockedAt(t, 100, -8));
            TileRunners free = new TileRunners();
            eq("nothing below the lowest row", supportAt(free, 100, 0, 8, 8), 0);
            eq("up and out", free.ray(100, 223, 1), -1);
            eq("down and out", free.ray(100, 0, 3), -1);
        });
    }

    private static void besideTheWorld() {
        TileRunners t = withBody(0, 100, 4, 4);
        for (int dy = -400; dy <= 400; dy += 200) {
            yes("left, " + dy, t.isBlocked(0, -1, dy));
            no("at the left side, " + dy, t.isBlocked(0, 0, dy));
            no("at the right side, " + dy, t.isBlocked(0, 380, dy));
            yes("right, " + dy, t.isBlocked(0, 381, dy));
            yes("far left, " + dy, t.isBlocked(0, -400, dy));
            yes("far right, " + dy, t.isBlocked(0, 400, dy));
        }
        TileRunners above = withBody(0, 223, 4, 4);
        above.push(0, 0, 16);
        above.tick(1);
        step(above, JUMP);
        eq("a jump off the side above the rows", above.statistic(0, 2), 1);
        eq("away from it", above.body(0, 0), 5);
        TileRunners below = withBody(380, 0, 4, 4);
        below.tick(3);
        step(below, JUMP);
        eq("a jump off the side below the rows", below.statistic(0, 2), 1);
        eq("away from it", below.body(0, 0), 375);
    }

    // ---- Boxes ----

    private static void boxes() {
        sentence("A body is a box with a position x,y, a width from 4 to 16 and a height from 4 to 28; it covers the cells"
                + " from x to x + width - 1 and from y to y + height - 1.", () -> {
            for (int[] size : new int[][] {{4, 4}, {16, 28}, {7, 9}}) {
                TileRunners t = withBody(100, 90, size[0], size[1]);
                int lastX = 99 + size[0];
                int lastY = 89 + size[1];
                eq("first cell", t.look(100, 90), 100);
                eq("last cell", t.look(lastX, lastY), 100);
                eq("left of it", t.look(99, 90), 0);
                eq("below it", t.look(100, 89), 0);
                eq("right of it", t.look(lastX + 1, lastY), 0);
                eq("above it", t.look(lastX, lastY + 1), 0);
            }
            TileRunners t = new TileRunners();
            fails(ARGUMENT, "width 3", () -> t.addBody(100, 100, 3, 4));
            fails(ARGUMENT, "width 17", () -> t.addBody(100, 100, 17, 4));
            fails(ARGUMENT, "height 3", () -> t.addBody(100, 100, 4, 3));
            fails(ARGUMENT, "height 29", () -> t.addBody(100, 100, 4, 29));
        });
        sentence("Its foot is the column of cells x + width / 2, rounded down.", () -> {
            TileRunners t = new TileRunners();
            t.setTile(5, 0, 3);
            for (int width = 4; width <= 16; width++) {
                int surface = width / 2 + 1;
                eq("width " + width, supportAt(t, 80, surface, width, 4), 4);
                eq("lower, width " + width, supportAt(t, 80, surface - 1, width, 4), 0);
                eq("higher, width " + width, supportAt(t, 80, surface + 1, width, 4), 0);
            }
        });
        sentence("16 * r + f % 16 + 1 for kind 3, and 16 * r + 16 - f % 16 for kind 4.", () -> {
            for (int row = 0; row < 14; row += 13) {
                TileRunners t = new TileRunners();
                t.setTile(5, row, 3);
                t.setTile(9, row, 4);
                for (int i = 0; i < 16; i++) {
                    eq("free cells over kind 3, column " + i, t.ray(80 + i, 16 * row + 15, 3), 15 - i);
                    eq("free cells over kind 4, column " + i, t.ray(144 + i, 16 * row + 15, 3), i);
                }
            }
            TileRunners t = new TileRunners();
            t.setTile(5, 3, 3);
            t.setTile(9, 3, 4);
            for (int i = 0; i < 16; i++) {
                eq("standing on kind 3, column " + i, supportAt(t, 78 + i, 48 + i + 1, 4, 4), 4);
                eq("standing on kind 4, column " + i, supportAt(t, 142 + i, 48 + 16 - i, 4, 4), 4);
            }
        });
    }

    // ---- Blocking ----

    private static void blocking() {
        sentence("A box is blocked at a position if it covers a firm cell there.", () -> {
            TileRunners t = withBody(100, 20, 8, 8);
            t.setTile(10, 6, 1);
            int[][] at = {{153, 89, 1}, {152, 89, 0}, {153, 88, 0}, {175, 111, 1}, {176, 111, 0}, {175, 112, 0},
                {153, 111, 1}, {175, 89, 1}, {164, 100, 1}};
            for (int[] a : at) {
                eq("at " + a[0] + "," + a[1], blockedAt(t, a[0], a[1]) ? 1 : 0, a[2]);
            }
            TileRunners wide = withBody(100, 20, 16, 28);
            wide.setTile(10, 6, 1);
            yes("a tile amid a tall box", blockedAt(wide, 160, 90));
            yes("its last cell", blockedAt(wide, 145, 69));
            no("beside its last column", blockedAt(wide, 144, 69));
            no("above its last row", blockedAt(wide, 145, 68));
        });
        sentence("But if the tile of the cell foot,y is a slope tile, firm cells of the tiles of its row do not count;"
                + " cells beside the world do.", () -> slopesUnderTheFoot());
    }

    private static void slopesUnderTheFoot() {
        for (int kind = 3; kind <= 4; kind++) {
            TileRunners t = withBody(200, 100, 12, 8);
            t.setTile(4, 2, 1);
            t.setTile(5, 2, kind);
            t.setTile(6, 2, 8);
            t.setTile(5, 3, 5);
            no("foot in the first column of the slope", blockedAt(t, 74, 40));
            yes("foot left of it", blockedAt(t, 73, 40));
            no("foot in its last column", blockedAt(t, 89, 40));
            yes("foot right of it", blockedAt(t, 90, 40));
            yes("a firm cell of the row above counts", blockedAt(t, 74, 41));
            yes("foot below the slope", blockedAt(t, 74, 31));
            no("foot in its lowest row", blockedAt(t, 74, 32));
        }
        TileRunners t = withBody(200, 100, 16, 8);
        t.setTile(0, 2, 4);
        t.setTile(23, 2, 3);
        no("beside the left side", blockedAt(t, 0, 40));
        yes("beyond the left side", blockedAt(t, -1, 40));
        no("beside the right side", blockedAt(t, 368, 40));
        yes("beyond the right side", blockedAt(t, 369, 40));
    }

    // ---- Support ----

    private static void support() {
        sentence("Ground: a firm cell lies directly below it, that is, in the row y - 1 of cells and in one of its"
                + " columns;", () -> {
            for (int kind : FIRM) {
                TileRunners t = new TileRunners();
                t.setTile(10, 5, kind);
                eq("its last column", supportAt(t, 153, 96, 8, 8), 1);
                eq("left of that", supportAt(t, 152, 96, 8, 8), 0);
                eq("its first column", supportAt(t, 175, 96, 8, 8), 1);
                eq("right of that", supportAt(t, 176, 96, 8, 8), 0);
                eq("one above", supportAt(t, 160, 97, 8, 8), 0);
                eq("under the tile", supportAt(t, 160, 72, 8, 8), 0);
            }
        });
        sentence("if the tile of the cell foot,y is a slope tile, firm cells of the tiles of its row do not count."
                + " One-way floors", () -> {
            TileRunners t = new TileRunners();
            t.setTile(4, 2, 1);
            t.setTile(5, 2, 3);
            t.setTile(4, 1, 1);
            eq("with the foot in the slope tile", supportAt(t, 74, 40, 12, 8), 0);
            eq("in its lowest row of cells the row below counts", supportAt(t, 74, 32, 12, 8), 1);
            eq("above its row", supportAt(t, 74, 48, 12, 8), 1);
        });
        sentence("One-way floors: y is a multiple of 16, and a tile of kind 2 lies directly below one of its cells.",
                () -> floors());
        sentence("Slopes: the tile of the cell foot,y - 1 is a slope tile, and its surface in the foot column is y.", () -> {
            TileRunners t = new TileRunners();
            t.setTile(5, 2, 3);
            t.setTile(6, 2, 4);
            eq("the highest column", supportAt(t, 93, 48, 4, 4), 4);
            eq("the highest column of the other", supportAt(t, 94, 48, 4, 4), 4);
            eq("the lowest column", supportAt(t, 78, 33, 4, 4), 4);
            eq("the lowest column of the other", supportAt(t, 109, 33, 4, 4), 4);
            eq("left of it", supportAt(t, 77, 33, 4, 4), 0);
            eq("right of it", supportAt(t, 110, 33, 4, 4), 0);
            eq("one above", supportAt(t, 93, 49, 4, 4), 0);
            eq("one below", supportAt(t, 93, 47, 4, 4), 0);
            eq("at its bottom", supportAt(t, 78, 32, 4, 4), 0);
        });
        sentence("Platforms: the top of a platform is y, and box and platform have a column of cells in common.", () -> {
            TileRunners t = new TileRunners();
            t.addPlatform(60, 40, 16, 0, 0, 1);
            int[][] at = {{57, 40, 8}, {56, 40, 0}, {75, 40, 8}, {76, 40, 0}, {60, 41, 0}, {60, 39, 0}};
            for (int[] a : at) {
                eq("at " + a[0] + "," + a[1], supportAt(t, a[0], a[1], 4, 4), a[2]);
            }
            t.removePlatform(0);
            eq("a platform that was removed", supportAt(t, 60, 40, 4, 4), 0);
        });
        sentence("One-way floors and platforms do not support a body that drops.", () -> droppingToItsEnd());
    }

    private static void floors() {
        TileRunners t = new TileRunners();
        t.setTile(10, 5, 2);
        int[][] at = {{153, 96, 2}, {152, 96, 0}, {175, 96, 2}, {176, 96, 0}, {160, 97, 0}, {160, 95, 0}, {160, 81, 0}};
        for (int[] a : at) {
            eq("at " + a[0] + "," + a[1], supportAt(t, a[0], a[1], 8, 8), a[2]);
        }
        eq("a tall body in the row of the floor", supportAt(t, 160, 80, 8, 28), 0);
        TileRunners top = withBody(160, 223, 8, 8);
        top.setTile(10, 13, 2);
        top.push(0, 0, 3);
        eq("ticks onto the floor of the highest row", top.tickUntilStanding(0, 9), 5);
        eq("y", top.body(0, 1), 224);
        eq("by the floor", top.support(0), 2);
    }

    /** A drop with one unit down in each tick, which ends over a platform. */
    private static void droppingToItsEnd() {
        TileRunners t = withBody(40, 48, 8, 8, "..=", ".", ".");
        t.addPlatform(32, 44, 20, 0, 0, 1);
        t.addPlatform(32, 40, 20, 0, 0, 1);
        step(t, DOWN + JUMP);
        for (int n = 8; n >= 1; n--) {
            eq("drop counter", t.body(0, 6), n);
            place("drop counter " + n, t, 40, 39 + n);
            eq("support with the drop counter " + n, t.support(0), 0);
            t.push(0, 0, 0);
            if (n > 1) {
                t.tick(1);
            }
        }
        t.tick(1);
        place("the counter reached 0 ahead of the fall", t, 40, 40);
        eq("it landed", t.statistic(0, 3), 1);
        eq("it did not stand in step 1", t.statistic(0, 5), 1);
        eq("support", t.support(0), 8);
        t.tick(1);
        eq("the counter stays 0", t.body(0, 6), 0);
        eq("it stands", t.statistic(0, 5), 2);
    }

    // ---- Platforms ----

    private static void platforms() {
        sentence("There are at most 4 platforms, numbered from 0.", () -> {
            TileRunners t = new TileRunners();
            for (int i = 0; i < 4; i++) {
                fails(INDEX, "not yet there", () -> t.platform(t.count(1), 0));
                eq("number", t.addPlatform(10 * i, 50, 16, 0, 0, 1), i);
            }
            fails(STATE, "a fifth", () -> t.addPlatform(10, 50, 16, 0, 0, 1));
            eq("platforms", t.count(1), 4);
            eq("the last one", t.platform(3, 0), 30);
            fails(INDEX, "number 4", () -> t.platform(4, 0));
        });
        sentence("a width from 16 to 64, and in each tick a move dx,dy, each from -2 to 2, and a range from 1 to 60:", () -> {
            TileRunners t = new TileRunners();
            t.addPlatform(100, 100, 16, -2, -2, 1);
            t.addPlatform(100, 100, 64, 2, 2, 60);
            int[][] wrong = {{15, 0, 0, 1}, {65, 0, 0, 1}, {16, -3, 0, 1}, {16, 3, 0, 1}, {16, 0, -3, 1}, {16, 0, 3, 1},
                {16, 0, 0, 0}, {16, 0, 0, 61}};
            for (int[] w : wrong) {
                fails(ARGUMENT, "out of range", () -> t.addPlatform(100, 100, w[0], w[1], w[2], w[3]));
            }
            eq("platforms", t.count(1), 2);
        });
        sentence("after so many ticks both moves change their signs, and so again and again.", () -> ranges());
        sentence("Tiles do not matter for platforms.", () -> {
            TileRunners t = world(FLAT, FLAT);
            t.addPlatform(0, 20, 16, -2, -2, 60);
            t.addPlatform(383, 223, 16, 2, 2, 60);
            t.tick(60);
            eq("left of the world", t.platform(0, 0), -120);
            eq("below the rows", t.platform(0, 1), -100);
            eq("right of the world", t.platform(1, 0), 503);
            eq("above the rows", t.platform(1, 1), 343);
        });
    }

    private static void ranges() {
        TileRunners t = new TileRunners();
        t.addPlatform(100, 100, 16, 1, -2, 1);
        t.addPlatform(100, 100, 16, 2, 1, 60);
        for (int n = 1; n <= 6; n++) {
            t.tick(1);
            eq("x with range 1", t.platform(0, 0), 100 + n % 2);
            eq("y with range 1", t.platform(0, 1), 100 - 2 * (n % 2));
            eq("dx with range 1", t.platform(0, 3), n % 2 == 1 ? -1 : 1);
            eq("dy with range 1", t.platform(0, 4), n % 2 == 1 ? 2 : -2);
            eq("ticks left with range 1", t.platform(0, 5), 1);
        }
        int[][] due = {{59, 218, 2, 1, 1}, {60, 220, -2, -1, 60}, {61, 218, -2, -1, 59}, {119, 102, -2, -1, 1},
            {120, 100, 2, 1, 60}, {121, 102, 2, 1, 59}, {180, 220, -2, -1, 60}, {240, 100, 2, 1, 60}};
        for (int[] d : due) {
            t.tick(d[0] - t.clock());
            eq("x behind tick " + d[0], t.platform(1, 0), d[1]);
            eq("dx behind tick " + d[0], t.platform(1, 3), d[2]);
            eq("dy behind tick " + d[0], t.platform(1, 4), d[3]);
            eq("ticks left behind tick " + d[0], t.platform(1, 5), d[4]);
        }
    }

    // ---- Unit moves ----

    private static void unitMoves() {
        sentence("if s is greater than y + 1, the move fails; if s is y + 1, y2 is s.", () -> {
            TileRunners t = new TileRunners();
            t.setTile(5, 6, 4);
            int[][] due = {{110, 75, 110}, {111, 76, 112}, {112, 76, 112}};
            for (int[] d : due) {
                t.addBody(70, d[0], 8, 8);
                t.push(0, 6, 1);
                t.tick(1);
                place("from y " + d[0] + " to a surface at 112", t, d[1], d[2]);
                t.removeBody(0);
            }
        });
        sentence("If the box is blocked at x2,y2, the move fails.", () -> {
            TileRunners t = new TileRunners();
            t.setTile(5, 2, 3);
            t.setTile(5, 3, 1);
            t.addBody(78, 33, 4, 15);
            t.addBody(78, 33, 4, 14);
            eq("under a ceiling, where the slope would raise it", t.clearance(0, 1), 0);
            eq("one unit lower", t.clearance(1, 1), 1);
            TileRunners wall = withBody(71, 96, 8, 8);
            wall.setTile(5, 6, 1);
            eq("a wall behind one unit", wall.clearance(0, 1), 1);
            wall.setTile(5, 6, 2);
            eq("a floor is no wall", wall.clearance(0, 1), 376 - 71);
        });
        sentence("and if it was supported before, is not supported at x2,y2, and would be supported at x2,y2 - 1, it is"
                + " moved to x2,y2 - 1.", () -> stepsDown());
        sentence("A body is moved up by one unit if it is not blocked there, and down by one unit if it is not"
                + " supported.", () -> {
            TileRunners t = new TileRunners();
            t.setTile(5, 5, 2);
            t.addBody(84, 70, 8, 8);
            t.push(0, 0, 9);
            t.tick(1);
            place("up through a floor", t, 84, 78);
            t.push(0, 0, 16);
            t.tick(2);
            place("over it", t, 84, 78 + 15 + 14);
            t.push(0, 0, -12);
            t.tick(1);
            place("but not down through it", t, 84, 96);
            TileRunners ceiling = withBody(84, 60, 8, 10);
            ceiling.setTile(5, 5, 1);
            ceiling.push(0, 0, 12);
            ceiling.tick(1);
            place("up to a ceiling", ceiling, 84, 70);
        });
    }

    /** Two platforms side by side, or one, whose tops differ by a step. */
    private static void stepsDown() {
        int[][] due = {{40, 39, 40, 39}, {40, 38, 40, 40}, {40, 40, 40, 40}, {40, 40, 41, 41}, {40, 41, 40, 40}};
        for (int[] d : due) {
            TileRunners t = new TileRunners();
            t.addPlatform(60, d[0], 16, 0, 0, 1);
            t.addPlatform(76, d[1], 16, 0, 0, 1);
            t.addBody(72, d[2], 4, 4);
            // With the vertical speed 0 in step 10, only sideways moves change its y.
            boolean stands = t.stands(0);
            t.push(0, stands ? 6 : 4, stands ? 0 : 1);
            t.tick(1);
            place("from " + d[2] + " on " + d[0] + " over " + d[1], t, 76, d[3]);
        }
        TileRunners both = new TileRunners();
        both.addPlatform(60, 40, 16, 0, 0, 1);
        both.addPlatform(60, 39, 40, 0, 0, 1);
        both.addBody(72, 40, 4, 4);
        both.push(0, 5, 0);
        both.tick(1);
        place("still supported in the last column", both, 75, 40);
        TileRunners slope = withBody(32, 30, 4, 4, "..\\", ".");
        slope.setTile(3, 0, 1);
        slope.push(0, 10, 0);
        slope.tick(1);
        place("down a slope, with the foot in column 42", slope, 40, 22);
        slope.tick(1);
        place("onto the ground at its end", slope, 46, 16);
    }

    public static void main(String[] args) {
        tiles();
        boxes();
        blocking();
        support();
        platforms();
        unitMoves();
        finish("the description's boundaries hold");
    }
}
