import java.util.ArrayList;
import java.util.List;

/**
 * Every "Throws" of every promise: too small, too great, none of that number, full. Each refused call has to throw the
 * exception that is listed first, and to leave everything as it would be without the call: what can be asked, what
 * later ticks, undo and restore make of it, and the text that stands in the buffer.
 */
public final class RefusalTest extends Checks {
    private static final int LEAST = Integer.MIN_VALUE;
    private static final int GREATEST = Integer.MAX_VALUE;

    private interface Use {
        void of(TileRunners t);
    }

    private interface Maker {
        TileRunners make();
    }

    // ---- worlds in which calls are refused ----

    /** Two bodies in flight, a drop and two platforms; a fault, a text and a snapshot; more than 12 ticks. */
    private static TileRunners rich() {
        TileRunners t = world(".....o..../\\...^..>>..ii", "##=#o.##########i.##==#x");
        t.addBody(36, 40, 8, 12);
        t.addBody(250, 60, 16, 28);
        t.addPlatform(30, 90, 32, 1, -1, 7);
        t.addPlatform(240, 60, 40, -2, 2, 5);
        t.set(0, 6);
        t.set(2, 3);
        t.tick(4);
        t.press(0, RIGHT + JUMP);
        t.press(1, DOWN + JUMP);
        t.save();
        t.set(1, 12);
        t.tick(10);
        t.press(1, LEFT + JUMP);
        t.tick(1);
        write(t, "#q");
        try {
            t.readTiles(0, 5);
        } catch (IllegalArgumentException e) {
            t.push(1, 7, 9);
        }
        write(t, "r2j");
        return t;
    }

    /** Four bodies and four platforms. */
    private static TileRunners full() {
        TileRunners t = rich();
        t.addBody(100, 100, 8, 8);
        t.addBody(120, 100, 8, 8);
        t.addPlatform(100, 99, 20, 0, 1, 60);
        t.addPlatform(100, 99, 20, 0, 1, 60);
        t.tick(3);
        return t;
    }

    /** One body, which is blocked, as it died and went where a tile had been set. */
    private static TileRunners blocked() {
        TileRunners t = world("......=", "......x");
        t.addBody(100, 48, 8, 8);
        t.tickUntilStanding(0, 40);
        t.setTile(6, 3, 1);
        t.press(0, DOWN + JUMP);
        t.tick(6);
        return t;
    }

    private static TileRunners empty() {
        return new TileRunners();
    }

    // ---- what can be seen of a world ----

    private static void seeBodies(TileRunners t, List<Object> seen) {
        for (int body = 0; body < t.count(0); body++) {
            for (int what = 0; what < 10; what++) {
                seen.add(t.body(body, what));
            }
            for (int what = 0; what < 7; what++) {
                seen.add(t.statistic(body, what));
            }
            seen.add(t.support(body));
        }
    }

    private static List<Object> seeAll(TileRunners t) {
        List<Object> seen = new ArrayList<>();
        for (int what = 0; what < 4; what++) {
            seen.add(t.count(what));
        }
        seeBodies(t, seen);
        for (int platform = 0; platform < t.count(1); platform++) {
            for (int what = 0; what < 6; what++) {
                seen.add(t.platform(platform, what));
            }
        }
        for (int column = 0; column < 24; column++) {
            for (int row : new int[] {0, 1, 3, 5, 10, 13}) {
                seen.add(t.tile(column, row));
            }
        }
        seen.add(t.clock());
        seen.add(t.faultPosition());
        int[] values = {5, 10, 4, 3};
        for (int setting = 0; setting < 4; setting++) {
            int value = t.set(setting, values[setting]);
            seen.add(value);
            t.set(setting, value);
        }
        return seen;
    }

    private static List<Object> seeLater(TileRunners t) {
        List<Object> seen = new ArrayList<>();
        for (int n = 0; n < 5; n++) {
            t.tick(1);
            seeBodies(t, seen);
        }
        return seen;
    }

    private static List<Object> seeEarlier(TileRunners t) {
        List<Object> seen = new ArrayList<>();
        for (int n = 0; n < 13; n++) {
            try {
                seen.add(t.undo());
            } catch (IllegalStateException e) {
                seen.add("none");
            }
            for (int body = 0; body < t.count(0); body++) {
                for (int what = 0; what < 10; what++) {
                    seen.add(t.body(body, what));
                }
            }
        }
        return seen;
    }

    private static List<Object> seeSnapshot(TileRunners t) {
        try {
            t.restore();
        } catch (IllegalStateException e) {
            return List.of("none");
        }
        return seeAll(t);
    }

    /** The rest of the buffer: how many characters it takes, and what the text does. */
    private static List<Object> seeText(TileRunners t) {
        List<Object> seen = new ArrayList<>();
        t.setTile(13, 13, 0);
        int body = t.count(0) < 4 ? t.addBody(300, 100, 8, 8) : 3;
        write(t, "7q");
        try {
            seen.add(t.play(body));
        } catch (IllegalArgumentException e) {
            seen.add("fault");
        }
        seen.add(t.faultPosition());
        return seen;
    }

    private static List<Object> see(TileRunners t, int part) {
        return switch (part) {
            case 0 -> seeAll(t);
            case 1 -> seeLater(t);
            case 2 -> seeEarlier(t);
            case 3 -> seeSnapshot(t);
            default -> seeText(t);
        };
    }

    /** A call that is refused with an exception, and changes nothing at all. */
    private static void refused(Class<? extends Exception> due, String what, Maker maker, Use use) {
        check("refused " + what, () -> {
            // A body that is blocked hinders the questions for the text, too.
            int parts = maker.make().count(0) == 1 ? 4 : 5;
            for (int part = 0; part < parts; part++) {
                TileRunners t = maker.make();
                fails(due, "the call", () -> use.of(t));
                List<Object> got = see(t, part);
                List<Object> without = see(maker.make(), part);
                yes("part " + part + " as it was: " + got + " is " + without, got.equals(without));
            }
        });
    }

    // ---- promises 2 to 13 ----

    private static void tiles() {
        int[][] none = {{-1, 0}, {24, 0}, {0, -1}, {0, 14}, {LEAST, 0}, {GREATEST, 0}, {0, LEAST}, {0, GREATEST},
            {-1, -1}, {24, 14}};
        for (int[] n : none) {
            refused(INDEX, "setTile, no such tile", () -> rich(), t -> t.setTile(n[0], n[1], 10));
            refused(INDEX, "setTile, no such tile, kind or place", () -> blocked(), t -> t.setTile(n[0], n[1], 11));
            refused(INDEX, "tile, no such tile", () -> rich(), t -> t.tile(n[0], n[1]));
        }
        for (int kind : new int[] {-1, 11, LEAST, GREATEST}) {
            refused(ARGUMENT, "setTile, no such kind", () -> rich(), t -> t.setTile(10, 10, kind));
            refused(ARGUMENT, "setTile, no such kind and a blocked body", () -> blocked(), t -> t.setTile(10, 10, kind));
        }
        refused(STATE, "setTile, a blocked body", () -> blocked(), t -> t.setTile(10, 10, 10));
        for (int kind : new int[] {1, 5, 6, 7, 8}) {
            refused(STATE, "setTile, a body would be blocked", () -> full(), t -> t.setTile(6, 6, kind));
        }
    }

    private static void bodies() {
        int[][] wrong = {{-1, 100, 8, 8}, {384, 100, 8, 8}, {100, -1, 8, 8}, {100, 224, 8, 8}, {100, 100, 3, 8},
            {100, 100, 17, 8}, {100, 100, 8, 3}, {100, 100, 8, 29}, {LEAST, 100, 8, 8}, {GREATEST, 100, 8, 8},
            {100, LEAST, 8, 8}, {100, GREATEST, 8, 8}, {100, 100, LEAST, 8}, {100, 100, GREATEST, 8},
            {100, 100, 8, LEAST}, {100, 100, 8, GREATEST}};
        for (int[] w : wrong) {
            refused(ARGUMENT, "addBody, out of range", () -> rich(), t -> t.addBody(w[0], w[1], w[2], w[3]));
            refused(ARGUMENT, "addBody, out of range and full", () -> full(), t -> t.addBody(w[0], w[1], w[2], w[3]));
        }
        refused(ARGUMENT, "addBody, out of range and blocked", () -> rich(), t -> t.addBody(0, 0, 8, 29));
        refused(STATE, "addBody, full", () -> full(), t -> t.addBody(100, 200, 8, 8));
        refused(STATE, "addBody, full and blocked", () -> full(), t -> t.addBody(0, 0, 8, 8));
        refused(STATE, "addBody, blocked", () -> rich(), t -> t.addBody(0, 0, 8, 8));
        refused(STATE, "addBody, beyond the right side", () -> rich(), t -> t.addBody(383, 200, 4, 4));
    }

    private static void numbers() {
        for (int body : new int[] {-1, 2, 4, LEAST, GREATEST}) {
            refused(INDEX, "removeBody", () -> rich(), t -> t.removeBody(body));
            refused(INDEX, "body", () -> rich(), t -> t.body(body, 0));
            refused(INDEX, "body, no such what", () -> rich(), t -> t.body(body, 10));
            refused(INDEX, "press", () -> rich(), t -> t.press(body, 0));
            refused(INDEX, "press, no such keys", () -> rich(), t -> t.press(body, 16));
            refused(INDEX, "push", () -> rich(), t -> t.push(body, 0, 0));
            refused(INDEX, "push, out of range", () -> rich(), t -> t.push(body, 17, 17));
            refused(INDEX, "removePlatform", () -> rich(), t -> t.removePlatform(body));
            refused(INDEX, "platform", () -> rich(), t -> t.platform(body, 0));
            refused(INDEX, "platform, no such what", () -> rich(), t -> t.platform(body, 6));
        }
        refused(INDEX, "removeBody of none", () -> empty(), t -> t.removeBody(0));
        refused(INDEX, "body of none", () -> empty(), t -> t.body(0, 0));
        refused(INDEX, "removePlatform of none", () -> empty(), t -> t.removePlatform(0));
        refused(INDEX, "platform of none", () -> empty(), t -> t.platform(0, 0));
        for (int what : new int[] {-1, 10, LEAST, GREATEST}) {
            refused(ARGUMENT, "body, what " + what, () -> rich(), t -> t.body(0, what));
        }
        for (int what : new int[] {-1, 6, LEAST, GREATEST}) {
            refused(ARGUMENT, "platform, what " + what, () -> rich(), t -> t.platform(0, what));
        }
        for (int what : new int[] {-1, 4, LEAST, GREATEST}) {
            refused(ARGUMENT, "count, what " + what, () -> rich(), t -> t.count(what));
        }
        for (int keys : new int[] {-1, 16, LEAST, GREATEST}) {
            refused(ARGUMENT, "press, keys " + keys, () -> rich(), t -> t.press(0, keys));
        }
        int[][] speeds = {{-17, 0}, {17, 0}, {0, -13}, {0, 17}, {LEAST, 0}, {GREATEST, 0}, {0, LEAST}, {0, GREATEST}};
        for (int[] s : speeds) {
            refused(ARGUMENT, "push, out of range", () -> rich(), t -> t.push(0, s[0], s[1]));
        }
    }

    private static void platforms() {
        int[] right = {100, 100, 20, 1, 1, 5};
        int[][] limits = {{0, 383}, {0, 223}, {16, 64}, {-2, 2}, {-2, 2}, {1, 60}};
        for (int i = 0; i < 6; i++) {
            for (int value : new int[] {limits[i][0] - 1, limits[i][1] + 1, LEAST, GREATEST}) {
                int[] a = right.clone();
                a[i] = value;
                refused(ARGUMENT, "addPlatform, out of range", () -> rich(),
                        t -> t.addPlatform(a[0], a[1], a[2], a[3], a[4], a[5]));
                refused(ARGUMENT, "addPlatform, out of range and full", () -> full(),
                        t -> t.addPlatform(a[0], a[1], a[2], a[3], a[4], a[5]));
            }
            for (int value : limits[i]) {
                int[] a = right.clone();
                a[i] = value;
                check("addPlatform, at the limits", () -> eq("number",
                        new TileRunners().addPlatform(a[0], a[1], a[2], a[3], a[4], a[5]), 0));
            }
        }
        refused(STATE, "addPlatform, full", () -> full(), t -> t.addPlatform(100, 100, 20, 1, 1, 5));
    }

    private static void settings() {
        int[][] limits = {{1, 10}, {5, 16}, {0, 10}, {1, 10}};
        for (int i = 0; i < 4; i++) {
            int setting = i;
            for (int value : new int[] {limits[i][0] - 1, limits[i][1] + 1, LEAST, GREATEST}) {
                refused(ARGUMENT, "set, out of range", () -> rich(), t -> t.set(setting, value));
            }
        }
        for (int setting : new int[] {-1, 4, LEAST, GREATEST}) {
            refused(INDEX, "set, no such setting", () -> rich(), t -> t.set(setting, 5));
            refused(INDEX, "set, no such setting and out of range", () -> rich(), t -> t.set(setting, 99));
        }
    }

    // ---- promises 14 to 29 ----

    private static void ticks() {
        for (int ticks : new int[] {0, 101, -1, LEAST, GREATEST}) {
            refused(ARGUMENT, "tick, out of range", () -> rich(), t -> t.tick(ticks));
            refused(ARGUMENT, "tickUntilStanding, out of range", () -> rich(), t -> t.tickUntilStanding(1, ticks));
            refused(INDEX, "tickUntilStanding, no such body", () -> rich(), t -> t.tickUntilStanding(2, ticks));
        }
        refused(INDEX, "tickUntilStanding, no such body", () -> rich(), t -> t.tickUntilStanding(-1, 1));
        refused(STATE, "undo, nothing kept", () -> empty(), t -> t.undo());
        refused(STATE, "undo, nothing kept any more", () -> {
            TileRunners t = rich();
            t.setTile(20, 10, 10);
            return t;
        }, t -> t.undo());
        check("tickUntilStanding, not yet", () -> {
            TileRunners t = withBody(100, 200, 8, 8, ".");
            for (int most : new int[] {1, 7, 100}) {
                int before = t.clock();
                fails(ELEMENT, "in the air", () -> t.tickUntilStanding(0, most));
                eq("the ticks have passed", t.clock(), before + most);
            }
            fails(INDEX, "no such body", () -> t.tickUntilStanding(1, 1));
            eq("no tick has passed", t.clock(), 108);
        });
    }

    private static void questions() {
        for (int body : new int[] {-1, 2, LEAST, GREATEST}) {
            refused(INDEX, "support", () -> rich(), t -> t.support(body));
            refused(INDEX, "stands", () -> rich(), t -> t.stands(body));
            refused(INDEX, "below", () -> rich(), t -> t.below(body));
            refused(INDEX, "isBlocked", () -> rich(), t -> t.isBlocked(body, 0, 0));
            refused(INDEX, "isBlocked, out of range", () -> rich(), t -> t.isBlocked(body, 401, 401));
            refused(INDEX, "clearance", () -> rich(), t -> t.clearance(body, 1));
            refused(INDEX, "clearance, no direction", () -> rich(), t -> t.clearance(body, 0));
            refused(INDEX, "drop", () -> rich(), t -> t.drop(body));
            refused(INDEX, "predict", () -> rich(), t -> t.predict(body, 0, 1, 0));
            refused(INDEX, "predict, out of range", () -> rich(), t -> t.predict(body, 16, 41, 7));
            refused(INDEX, "apex", () -> rich(), t -> t.apex(body, 0, 1));
            refused(INDEX, "apex, out of range", () -> rich(), t -> t.apex(body, 16, 41));
            refused(INDEX, "statistic", () -> rich(), t -> t.statistic(body, 0));
            refused(INDEX, "statistic, no such what", () -> rich(), t -> t.statistic(body, 7));
            refused(INDEX, "meanMoves", () -> rich(), t -> t.meanMoves(body));
        }
        for (int move : new int[] {-401, 401, LEAST, GREATEST}) {
            refused(ARGUMENT, "isBlocked, dx " + move, () -> rich(), t -> t.isBlocked(0, move, 0));
            refused(ARGUMENT, "isBlocked, dy " + move, () -> rich(), t -> t.isBlocked(0, 0, move));
        }
        for (int direction : new int[] {0, -2, 2, LEAST, GREATEST}) {
            refused(ARGUMENT, "clearance, direction " + direction, () -> rich(), t -> t.clearance(0, direction));
        }
        int[][] cells = {{-1, 0}, {384, 0}, {0, -1}, {0, 224}, {LEAST, 0}, {GREATEST, 0}, {0, LEAST}, {0, GREATEST}};
        for (int[] c : cells) {
            refused(ARGUMENT, "look, out of range", () -> rich(), t -> t.look(c[0], c[1]));
            for (int direction = 0; direction < 4; direction++) {
                int way = direction;
                refused(ARGUMENT, "ray, out of range", () -> rich(), t -> t.ray(c[0], c[1], way));
            }
        }
        for (int direction : new int[] {-1, 4, LEAST, GREATEST}) {
            refused(ARGUMENT, "ray, direction " + direction, () -> rich(), t -> t.ray(100, 100, direction));
        }
        for (int what : new int[] {-1, 7, LEAST, GREATEST}) {
            refused(ARGUMENT, "predict, what " + what, () -> rich(), t -> t.predict(0, 0, 1, what));
            refused(ARGUMENT, "statistic, what " + what, () -> rich(), t -> t.statistic(0, what));
        }
        for (int keys : new int[] {-1, 16, LEAST, GREATEST}) {
            refused(ARGUMENT, "predict, keys " + keys, () -> rich(), t -> t.predict(0, keys, 1, 0));
            refused(ARGUMENT, "apex, keys " + keys, () -> rich(), t -> t.apex(0, keys, 1));
        }
        for (int ticks : new int[] {-1, 0, 41, LEAST, GREATEST}) {
            refused(ARGUMENT, "predict, ticks " + ticks, () -> rich(), t -> t.predict(0, 0, ticks, 0));
            refused(ARGUMENT, "apex, ticks " + ticks, () -> rich(), t -> t.apex(0, 0, ticks));
        }
        refused(ARITHMETIC, "meanMoves, no tick", () -> {
            TileRunners t = rich();
            t.addBody(300, 150, 8, 8);
            return t;
        }, t -> t.meanMoves(2));
    }

    // ---- promises 30 to 35 ----

    private static void texts() {
        check("append, full", () -> {
            TileRunners t = withBody(100, 100, 8, 8, ".");
            write(t, "n1".repeat(20));
            for (char c : new char[] {'n', '1', 0, 65535}) {
                fails(STATE, "a 41st character", () -> t.append(c));
            }
            eq("the text is as it was", t.play(0), 20);
            write(t, "#".repeat(40));
            fails(STATE, "a 41st character", () -> t.append('#'));
            fails(ARGUMENT, "40 signs", () -> t.readTiles(0, 0));
            t.append('#');
            eq("one sign", t.readTiles(0, 0), 1);
        });
        int[][] none = {{-1, 0}, {24, 0}, {0, -1}, {0, 14}, {LEAST, 0}, {GREATEST, 0}, {0, LEAST}, {0, GREATEST}};
        for (int[] n : none) {
            refusedText(INDEX, "##", -2, t -> t.readTiles(n[0], n[1]));
            refusedText(INDEX, "#q", -2, t -> t.readTiles(n[0], n[1]));
            refusedText(INDEX, "", -2, t -> t.readTiles(n[0], n[1]));
        }
        refusedText(ARGUMENT, "", 0, t -> t.readTiles(0, 5));
        refusedText(ARGUMENT, "#q", 1, t -> t.readTiles(23, 5));
        refusedText(ARGUMENT, "##q", 2, t -> t.readTiles(23, 5));
        refusedText(ARGUMENT, FLAT + "#", 24, t -> t.readTiles(0, 5));
        refusedText(STATE, "##", -1, t -> t.readTiles(23, 5));
        refusedText(STATE, FLAT, -1, t -> t.readTiles(1, 5));
        refusedText(STATE, "o..o#", -1, t -> t.readTiles(2, 6));
        for (int body : new int[] {-1, 4, LEAST, GREATEST}) {
            refusedText(INDEX, "r1", -2, t -> t.play(body));
            refusedText(INDEX, "r1q", -2, t -> t.play(body));
            refusedText(INDEX, "n99n99n99", -2, t -> t.play(body));
            refusedText(INDEX, "", -2, t -> t.play(body));
        }
        refusedText(ARGUMENT, "", 0, t -> t.play(0));
        refusedText(ARGUMENT, "r1l", 3, t -> t.play(0));
        refusedText(ARGUMENT, "n99n99n99q", 9, t -> t.play(0));
        refusedText(UNSUPPORTED, "l99r99j03", -1, t -> t.play(0));
        refusedText(UNSUPPORTED, "n99".repeat(13), -1, t -> t.play(0));
        check("readTiles, a blocked body", () -> {
            TileRunners t = blocked();
            write(t, "o");
            fails(STATE, "a coin far away", () -> t.readTiles(20, 10));
            write(t, "oq");
            fails(ARGUMENT, "a fault comes first", () -> t.readTiles(20, 10));
            write(t, "o");
            fails(INDEX, "no tile comes first", () -> t.readTiles(20, 14));
            eq("coins", t.count(3), 0);
        });
        refused(STATE, "restore without a snapshot", () -> empty(), t -> t.restore());
        check("restore without a snapshot", () -> {
            TileRunners t = withBody(100, 100, 8, 8, ".");
            t.tick(2);
            fails(STATE, "restore", () -> t.restore());
            eq("nothing forgotten", t.undo(), 1);
        });
    }

    /** Like refused, for calls that empty the buffer and, but for the fault position -2, set that. */
    private static void refusedText(Class<? extends Exception> due, String text, int fault, Use use) {
        check("refused text '" + text + "'", () -> {
            for (int part = 0; part < 4; part++) {
                TileRunners t = full();
                int before = t.faultPosition();
                eq("the fault of before", before, 1);
                fails(ARGUMENT, "emptying the buffer", () -> t.play(0));
                write(t, text);
                int emptied = t.faultPosition();
                fails(due, "the call", () -> use.of(t));
                eq("fault", t.faultPosition(), fault == -2 ? emptied : fault);
                fails(ARGUMENT, "the buffer is empty", () -> t.play(0));
                TileRunners without = full();
                fails(ARGUMENT, "emptying the buffer", () -> without.play(0));
                fails(ARGUMENT, "emptying the buffer", () -> without.play(0));
                eq("an empty text", t.faultPosition(), 0);
                yes("part " + part + " as it was", see(t, part).equals(see(without, part)));
            }
        });
    }

    public static void main(String[] args) {
        tiles();
        bodies();
        numbers();
        platforms();
        settings();
        ticks();
        questions();
        texts();
        finish("all refusals are as due");
    }
}
