import java.lang.reflect.InvocationTargetException;
import java.lang.reflect.Method;
import java.util.ArrayList;
import java.util.List;

/** Long runs of calls, made up from fixed seeds, whose answers and exceptions have to be those of PlainWorld. */
public final class ModelTest {
    private static final String SIGNS = ".#=/\\i><^xo";
    private static final String LETTERS = "nlrjdLRD";
    private static final String[] NUMBERS_ONLY = {
        "setTile", "tile", "addBody", "removeBody", "body", "press", "push", "addPlatform", "removePlatform",
        "platform", "count", "set", "tick", "tickUntilStanding", "undo", "clock", "support", "stands", "below",
        "isBlocked", "clearance", "drop", "look", "ray", "predict", "apex", "statistic", "meanMoves", "readTiles",
        "play", "faultPosition", "save", "restore"};

    private final Chance chance;
    private final TileRunners program = new TileRunners();
    private final PlainWorld model = new PlainWorld();
    private final List<String> calls = new ArrayList<>();
    private boolean differs = false;

    private ModelTest(long seed) {
        chance = new Chance(seed);
    }

    /** A fixed row of numbers that looks like chance. */
    private static final class Chance {
        private long state;

        Chance(long seed) {
            state = seed * 0x9E3779B97F4A7C15L + 1;
        }

        int below(int bound) {
            state = state * 6364136223846793005L + 1442695040888963407L;
            return (int) ((state >>> 33) % bound);
        }

        int from(int least, int greatest) {
            return least + below(greatest - least + 1);
        }

        boolean one(int in) {
            return below(in) == 0;
        }
    }

    private static Method method(Class<?> type, String name) {
        for (Method m : type.getDeclaredMethods()) {
            if (m.getName().equals(name) && !m.isSynthetic()) {
                m.setAccessible(true);
                return m;
            }
        }
        throw new IllegalStateException(name);
    }

    private static String answer(Object on, String name, Object[] arguments) {
        try {
            return String.valueOf(method(on.getClass(), name).invoke(on, arguments));
        } catch (InvocationTargetException e) {
            return e.getCause().getClass().getSimpleName();
        } catch (IllegalAccessException e) {
            throw new IllegalStateException(e);
        }
    }

    private String call(String name, Object... arguments) {
        String got = answer(program, name, arguments);
        String due = answer(model, name, arguments);
        calls.add(name + java.util.Arrays.toString(arguments) + " -> " + got);
        if (!got.equals(due) && !differs) {
            differs = true;
            System.out.println("a run differs: due is " + due + " at the end of");
            calls.forEach(c -> System.out.println("  " + c));
        }
        return got;
    }

    private void write(String text) {
        for (char c : text.toCharArray()) {
            call("append", c);
        }
    }

    // ---- worlds ----

    private char sign(int wildness) {
        int n = chance.below(100);
        if (n < 100 - wildness) {
            return '.';
        }
        return SIGNS.charAt(chance.below(11));
    }

    private void layTiles() {
        int kind = chance.below(4);
        for (int row = 0; row < 14; row++) {
            int wildness = kind == 0 ? 10 : kind == 1 ? 35 : row < 6 ? 40 : 8;
            StringBuilder text = new StringBuilder();
            for (int column = 0; column < 24; column++) {
                boolean isGround = row == 0 && kind != 1;
                text.append(isGround && !chance.one(9) ? "####i>^<".charAt(chance.below(8)) : sign(wildness));
            }
            write(text.toString());
            call("readTiles", 0, row);
        }
        if (kind == 3) {
            layRamps();
        }
    }

    private void layRamps() {
        for (int n = chance.from(2, 10); n > 0; n--) {
            String[] ramps = {"/\\", "/#\\", "/##", "#\\", "\\/", "/==\\", "//", "#/#", "#\\#", "/i\\", ">/", "/^\\"};
            write(ramps[chance.below(ramps.length)]);
            call("readTiles", chance.below(20), chance.from(0, 4));
        }
    }

    private void addOne() {
        if (chance.one(4)) {
            call("addPlatform", chance.below(384), chance.one(2) ? chance.below(60) : chance.below(224),
                    chance.from(16, 64), chance.from(-2, 2), chance.from(-2, 2), chance.from(1, 60));
        } else {
            call("addBody", chance.below(384), chance.one(2) ? chance.below(70) : chance.below(224),
                    chance.from(4, 16), chance.from(4, 28));
        }
    }

    // ---- calls ----

    private int someKeys() {
        int[] keys = {0, 1, 2, 1, 2, 5, 6, 4, 12, 8, 9, 10};
        return chance.one(4) ? chance.below(16) : keys[chance.below(keys.length)];
    }

    private int someBody() {
        return chance.one(40) ? chance.from(-1, 4) : chance.below(Math.max(1, Integer.parseInt(call("count", 0))));
    }

    private void observe() {
        int bodies = Integer.parseInt(call("count", 0));
        for (int body = 0; body < bodies; body++) {
            for (int what = 0; what < 10; what++) {
                call("body", body, what);
            }
            for (int what = 0; what < 7; what++) {
                call("statistic", body, what);
            }
            call("support", body);
            call("stands", body);
            call("below", body);
            call("meanMoves", body);
        }
        int platforms = Integer.parseInt(call("count", 1));
        for (int platform = 0; platform < platforms; platform++) {
            for (int what = 0; what < 6; what++) {
                call("platform", platform, what);
            }
        }
        call("count", 2);
        call("count", 3);
        call("clock");
        call("faultPosition");
    }

    private void ask() {
        switch (chance.below(9)) {
            case 0 -> call("isBlocked", someBody(), chance.from(-20, 20), chance.from(-20, 20));
            case 1 -> call("isBlocked", someBody(), chance.from(-402, 402), chance.from(-402, 402));
            case 2 -> call("clearance", someBody(), chance.one(2) ? 1 : -1);
            case 3 -> call("drop", someBody());
            case 4 -> call("look", chance.below(384), chance.below(224));
            case 5 -> call("ray", chance.below(384), chance.below(224), chance.below(4));
            case 6 -> call("predict", someBody(), someKeys(), chance.from(1, 40), chance.below(7));
            case 7 -> call("apex", someBody(), someKeys(), chance.from(1, 12));
            default -> call("tile", chance.below(24), chance.below(14));
        }
    }

    private void act() {
        switch (chance.below(26)) {
            case 0, 1, 2, 3, 4, 5 -> call("press", someBody(), someKeys());
            case 6, 7, 8, 9, 10, 11 -> call("tick", chance.one(4) ? chance.from(1, 30) : chance.from(1, 4));
            case 12 -> call("tickUntilStanding", someBody(), chance.from(1, 30));
            case 13, 14 -> call("push", someBody(), chance.from(-16, 16), chance.from(-12, 16));
            case 15 -> undoSome();
            case 16 -> call("set", chance.below(4), chance.from(0, 16));
            case 17 -> call("setTile", chance.below(24), chance.below(14), chance.below(11));
            case 18 -> addOne();
            case 19 -> removeOne();
            case 20 -> call("save");
            case 21 -> call(chance.one(3) ? "restore" : "clock");
            case 22, 23 -> playSome();
            case 24 -> aimAtBody();
            default -> wildCall();
        }
    }

    private void undoSome() {
        for (int n = chance.one(5) ? 13 : chance.from(1, 5); n > 0; n--) {
            call("undo");
        }
    }

    private void removeOne() {
        if (chance.one(3)) {
            call(chance.one(2) ? "removeBody" : "removePlatform", chance.from(-1, 4));
        }
    }

    private void playSome() {
        StringBuilder text = new StringBuilder();
        for (int n = chance.from(0, 9); n > 0; n--) {
            text.append(LETTERS.charAt(chance.below(8)));
            text.append(chance.one(3) ? chance.below(40) : chance.below(8));
            if (chance.one(30)) {
                text.append((char) chance.below(300));
            }
        }
        write(text.toString());
        call("play", someBody());
    }

    /** Sets a tile or a platform near a body, where it matters. */
    private void aimAtBody() {
        int body = someBody();
        if (call("body", body, 0).startsWith("I")) {
            return;
        }
        int x = Integer.parseInt(call("body", body, 0));
        int y = Integer.parseInt(call("body", body, 1));
        if (chance.one(3)) {
            call("addPlatform", x + chance.from(-20, 10), y - chance.below(6), chance.from(16, 30),
                    chance.from(-2, 2), chance.from(-2, 2), chance.from(1, 20));
        } else {
            call("setTile", Math.floorDiv(x + chance.from(-18, 30), 16), Math.floorDiv(y + chance.from(-18, 30), 16),
                    chance.below(11));
        }
    }

    private void wildCall() {
        String name = NUMBERS_ONLY[chance.below(NUMBERS_ONLY.length)];
        Object[] arguments = new Object[method(PlainWorld.class, name).getParameterCount()];
        int[] wild = {Integer.MIN_VALUE, Integer.MAX_VALUE, -1, 0, 1, 2, 3, 4, 5, 10, 11, 16, 23, 24, 40, 41, 383, 384,
            -400, 400, -401, 401};
        for (int i = 0; i < arguments.length; i++) {
            arguments[i] = wild[chance.below(wild.length)];
        }
        call(name, arguments);
    }

    private boolean run(int steps) {
        layTiles();
        for (int n = 0; n < 6; n++) {
            addOne();
        }
        for (int step = 0; step < steps && !differs; step++) {
            act();
            ask();
            observe();
        }
        return !differs;
    }

    public static void main(String[] args) {
        int runs = args.length > 0 ? Integer.parseInt(args[0]) : 400;
        int wrong = 0;
        for (int seed = 0; seed < runs && wrong < 3; seed++) {
            if (!new ModelTest(seed).run(60)) {
                System.out.println("seed " + seed + " differs");
                wrong++;
            }
        }
        System.out.println(wrong == 0 ? "all runs are as the model's" : wrong + " runs differ");
        if (wrong != 0) {
            System.exit(1);
        }
    }
}
