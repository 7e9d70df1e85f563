import java.util.NoSuchElementException;

/** A platform game world in whole units. The README tells where its promises stand. */
public final class TileRunners {

    private static final int COLUMNS = 24;
    private static final int ROWS = 14;
    private static final int TILE = 16;
    // Shifting by this, unlike dividing by 16, rounds down for cells left of and below the world, too.
    private static final int TILE_SHIFT = 4;
    private static final int CELL_COLUMNS = COLUMNS * TILE;
    private static final int CELL_ROWS = ROWS * TILE;

    private static final int EMPTY = 0;
    private static final int SOLID = 1;
    private static final int ONE_WAY = 2;
    private static final int RISES_RIGHT = 3;
    private static final int RISES_LEFT = 4;
    private static final int ICE = 5;
    private static final int BELT_RIGHT = 6;
    private static final int BELT_LEFT = 7;
    private static final int SPRING = 8;
    private static final int SPIKES = 9;
    private static final int COIN = 10;
    private static final String TILE_SIGNS = ".#=/\\i><^xo";

    private static final int LEFT = 1;
    private static final int RIGHT = 2;
    private static final int JUMP = 4;
    private static final int DOWN = 8;
    private static final int ALL_KEYS = 15;
    private static final String INPUT_LETTERS = "nlrjdLRD";
    // The keys of each of these letters, in their order.
    private static final int[] INPUT_KEYS = {0, 1, 2, 4, 8, 5, 6, 12};

    private static final int GROUND = 1;
    private static final int FLOORS = 2;
    private static final int SLOPES = 4;
    private static final int PLATFORMS = 8;

    private static final int RUN_SPEED = 0;
    private static final int JUMP_SPEED = 1;
    private static final int LATE_TIME = 2;
    private static final int BUFFER_TIME = 3;
    private static final int SETTINGS = 4;
    private static final int[] FIRST_SETTINGS = {5, 10, 4, 3};
    private static final int[] LEAST_SETTINGS = {1, 5, 0, 1};
    private static final int[] GREATEST_SETTINGS = {10, 16, 10, 10};

    private static final int COINS = 0;
    private static final int DEATHS = 1;
    private static final int JUMPS = 2;
    private static final int LANDINGS = 3;
    private static final int MOVES = 4;
    private static final int STOOD = 5;
    private static final int HIGHEST = 6;
    private static final int STATISTICS = 7;

    private static final int MOST_BODIES = 4;
    private static final int MOST_PLATFORMS = 4;
    private static final int MOST_SIGNS = 40;
    // A command of a text of inputs has two signs at least.
    private static final int MOST_COMMANDS = MOST_SIGNS / 2;
    private static final int MOST_TICKS_PLAYED = 200;
    private static final int KEPT_TICKS = 12;

    private static final int DROP_TIME = 8;
    private static final int CUT_SPEED = 4;
    private static final int FASTEST_FALL = -12;
    private static final int FASTEST_SLIDE = -3;
    private static final int SPRING_SPEED = 16;
    private static final int LOWEST_LIVING_Y = -40;
    private static final int FARTHEST = 400;

    // Stands for no platform, no row of tiles and no fault of a text.
    private static final int NONE = -1;
    // Far below every y that a body can have.
    private static final int NO_SURFACE = -1000000;

    private final World world = new World();
    private final World trial = new World();
    private final World saved = new World();
    private final int[] settings = FIRST_SETTINGS.clone();
    private final int[] savedSettings = FIRST_SETTINGS.clone();
    private final History history = new History();
    private final Text text = new Text();
    private boolean hasSnapshot = false;
    private int fault = NONE;

    public TileRunners() {
    }

    // ---- Tiles, bodies and platforms ----

    public int setTile(int column, int row, int kind)
            throws IndexOutOfBoundsException, IllegalArgumentException, IllegalStateException {
        requireTile(column, row);
        require(isWithin(kind, EMPTY, COIN));
        int before = world.tiles.kindAt(column, row);
        trial.copyFrom(world);
        trial.tiles.put(column, row, kind);
        acceptTrialTiles();
        return before;
    }

    public int tile(int column, int row) throws IndexOutOfBoundsException {
        requireTile(column, row);
        return world.tiles.kindAt(column, row);
    }

    public int addBody(int x, int y, int width, int height) throws IllegalArgumentException, IllegalStateException {
        require(isWithin(x, 0, CELL_COLUMNS - 1) && isWithin(y, 0, CELL_ROWS - 1));
        require(isWithin(width, 4, 16) && isWithin(height, 4, 28));
        if (world.bodyCount >= MOST_BODIES) {
            throw new IllegalStateException("there are 4 bodies");
        }
        int number = world.bodyCount;
        Body body = world.bodies[number];
        // The row behind the last body is free, so a refused body may leave its numbers there.
        body.begin(x, y, width, height);
        if (world.tiles.block(body, x, y)) {
            throw new IllegalStateException("the body is blocked there");
        }
        world.bodyCount = number + 1;
        history.forget();
        return number;
    }

    public int removeBody(int body) throws IndexOutOfBoundsException {
        requireBody(body);
        world.dropOutBody(body);
        history.forget();
        return world.bodyCount;
    }

    public int body(int body, int what) throws IndexOutOfBoundsException, IllegalArgumentException {
        requireBody(body);
        require(isWithin(what, 0, 9));
        return world.bodies[body].number(what);
    }

    public int press(int body, int keys) throws IndexOutOfBoundsException, IllegalArgumentException {
        requireBody(body);
        require(isWithin(keys, 0, ALL_KEYS));
        int before = world.bodies[body].input;
        world.bodies[body].input = keys;
        return before;
    }

    public int push(int body, int horizontal, int vertical) throws IndexOutOfBoundsException, IllegalArgumentException {
        requireBody(body);
        require(isWithin(horizontal, -16, 16) && isWithin(vertical, -12, 16));
        Body pushed = world.bodies[body];
        int before = pushed.horizontal * pushed.horizontal + pushed.vertical * pushed.vertical;
        pushed.horizontal = horizontal;
        pushed.vertical = vertical;
        pushed.rises = false;
        return before;
    }

    public int addPlatform(int x, int y, int width, int dx, int dy, int range)
            throws IllegalArgumentException, IllegalStateException {
        require(isWithin(x, 0, CELL_COLUMNS - 1) && isWithin(y, 0, CELL_ROWS - 1));
        require(isWithin(width, 16, 64) && isWithin(range, 1, 60));
        require(isWithin(dx, -2, 2) && isWithin(dy, -2, 2));
        if (world.platformCount >= MOST_PLATFORMS) {
            throw new IllegalStateException("there are 4 platforms");
        }
        int number = world.platformCount;
        world.platforms[number].begin(x, y, width, dx, dy, range);
        world.platformCount = number + 1;
        history.forget();
        return number;
    }

    public int removePlatform(int platform) throws IndexOutOfBoundsException {
        requirePlatform(platform);
        world.dropOutPlatform(platform);
        history.forget();
        return world.platformCount;
    }

    public int platform(int platform, int what) throws IndexOutOfBoundsException, IllegalArgumentException {
        requirePlatform(platform);
        require(isWithin(what, 0, 5));
        return world.platforms[platform].number(what);
    }

    public int count(int what) throws IllegalArgumentException {
        require(isWithin(what, 0, 3));
        switch (what) {
            case 0:
                return world.bodyCount;
            case 1:
                return world.platformCount;
            case 2:
                return COLUMNS * ROWS - world.tiles.countOf(EMPTY);
            default:
                return world.tiles.countOf(COIN);
        }
    }

    public int set(int setting, int value) throws IndexOutOfBoundsException, IllegalArgumentException {
        if (!isWithin(setting, 0, SETTINGS - 1)) {
            throw new IndexOutOfBoundsException("no such setting");
        }
        require(isWithin(value, LEAST_SETTINGS[setting], GREATEST_SETTINGS[setting]));
        int before = settings[setting];
        settings[setting] = value;
        return before;
    }

    // ---- Ticks ----

    public int tick(int ticks) throws IllegalArgumentException {
        require(isWithin(ticks, 1, 100));
        for (int passed = 0; passed < ticks; passed++) {
            history.keep(world);
            world.advance(settings);
        }
        return world.time;
    }

    public int tickUntilStanding(int body, int most)
            throws IndexOutOfBoundsException, IllegalArgumentException, NoSuchElementException {
        requireBody(body);
        require(isWithin(most, 1, 100));
        int passed = 0;
        while (passed < most && !world.isStanding(world.bodies[body])) {
            history.keep(world);
            world.advance(settings);
            passed++;
        }
        if (!world.isStanding(world.bodies[body])) {
            throw new NoSuchElementException("the body does not stand yet");
        }
        return passed;
    }

    public int undo() throws IllegalStateException {
        if (history.count == 0) {
            throw new IllegalStateException("no world is kept");
        }
        history.bringBack(world);
        return world.time;
    }

    public int clock() {
        return world.time;
    }

    // ---- Questions ----

    public int support(int body) throws IndexOutOfBoundsException {
        requireBody(body);
        Body asked = world.bodies[body];
        return world.supportAt(asked, asked.x, asked.y, NONE);
    }

    public boolean stands(int body) throws IndexOutOfBoundsException {
        requireBody(body);
        return world.isStanding(world.bodies[body]);
    }

    public int below(int body) throws IndexOutOfBoundsException {
        requireBody(body);
        Body asked = world.bodies[body];
        return world.tiles.firmKindsBelow(asked, asked.x, asked.y);
    }

    public boolean isBlocked(int body, int dx, int dy) throws IndexOutOfBoundsException, IllegalArgumentException {
        requireBody(body);
        require(isWithin(dx, -FARTHEST, FARTHEST) && isWithin(dy, -FARTHEST, FARTHEST));
        Body asked = world.bodies[body];
        return world.tiles.block(asked, asked.x + dx, asked.y + dy);
    }

    public int clearance(int body, int direction) throws IndexOutOfBoundsException, IllegalArgumentException {
        requireBody(body);
        require(direction == -1 || direction == 1);
        trial.copyFrom(world);
        int moves = 0;
        while (moves < FARTHEST && trial.stepSideways(trial.bodies[body], direction)) {
            moves++;
        }
        return moves;
    }

    public int drop(int body) throws IndexOutOfBoundsException {
        requireBody(body);
        Body asked = world.bodies[body];
        for (int y = asked.y; y >= LOWEST_LIVING_Y; y--) {
            if (world.supportAt(asked, asked.x, y, NONE) != 0) {
                return asked.y - y;
            }
        }
        return -1;
    }

    public int look(int x, int y) throws IllegalArgumentException {
        require(isWithin(x, 0, CELL_COLUMNS - 1) && isWithin(y, 0, CELL_ROWS - 1));
        for (int i = 0; i < world.bodyCount; i++) {
            if (world.bodies[i].covers(x, y)) {
                return 100 + i;
            }
        }
        for (int i = 0; i < world.platformCount; i++) {
            if (world.platforms[i].isTopOf(x, y)) {
                return 200 + i;
            }
        }
        return world.tiles.kindAt(x >> TILE_SHIFT, y >> TILE_SHIFT);
    }

    public int ray(int x, int y, int direction) throws IllegalArgumentException {
        require(isWithin(x, 0, CELL_COLUMNS - 1) && isWithin(y, 0, CELL_ROWS - 1));
        require(isWithin(direction, 0, 3));
        int dx = direction == 0 ? 1 : direction == 2 ? -1 : 0;
        int dy = direction == 1 ? 1 : direction == 3 ? -1 : 0;
        for (int free = 0; free < FARTHEST; free++) {
            int cellY = y + free * dy;
            if (!isWithin(cellY, 0, CELL_ROWS - 1)) {
                return -1;
            }
            if (!world.tiles.isFree(x + free * dx, cellY)) {
                return free;
            }
        }
        return -1;
    }

    public int predict(int body, int keys, int ticks, int what)
            throws IndexOutOfBoundsException, IllegalArgumentException {
        requireBody(body);
        require(isWithin(keys, 0, ALL_KEYS) && isWithin(ticks, 1, 40) && isWithin(what, 0, 6));
        trial.copyFrom(world);
        trial.bodies[body].input = keys;
        for (int passed = 0; passed < ticks; passed++) {
            trial.advance(settings);
        }
        return trial.bodies[body].number(what);
    }

    public int apex(int body, int keys, int ticks) throws IndexOutOfBoundsException, IllegalArgumentException {
        requireBody(body);
        require(isWithin(keys, 0, ALL_KEYS) && isWithin(ticks, 1, 40));
        trial.copyFrom(world);
        Body rising = trial.bodies[body];
        rising.input = keys;
        int greatest = rising.y;
        for (int passed = 0; passed < ticks; passed++) {
            trial.advance(settings);
            greatest = Math.max(greatest, rising.y);
        }
        return greatest;
    }

    public int statistic(int body, int what) throws IndexOutOfBoundsException, IllegalArgumentException {
        requireBody(body);
        require(isWithin(what, 0, STATISTICS - 1));
        return world.bodies[body].statistics[what];
    }

    public float meanMoves(int body) throws IndexOutOfBoundsException, ArithmeticException {
        requireBody(body);
        Body asked = world.bodies[body];
        if (asked.ticks == 0) {
            throw new ArithmeticException("no tick has passed");
        }
        return (float) asked.statistics[MOVES] / (float) asked.ticks;
    }

    // ---- Texts and snapshot ----

    public void append(char c) throws IllegalStateException {
        if (!text.takeIn(c)) {
            throw new IllegalStateException("the buffer is full");
        }
    }

    public int readTiles(int column, int row)
            throws IndexOutOfBoundsException, IllegalArgumentException, IllegalStateException {
        int length = text.takeOut();
        requireTile(column, row);
        fault = text.faultOfTiles(length);
        require(fault == NONE);
        if (length > COLUMNS - column) {
            throw new IllegalStateException("more signs than columns left");
        }
        trial.copyFrom(world);
        for (int i = 0; i < length; i++) {
            trial.tiles.put(column + i, row, text.tileAt(i));
        }
        acceptTrialTiles();
        return length;
    }

    public int play(int body)
            throws IndexOutOfBoundsException, IllegalArgumentException, UnsupportedOperationException {
        int length = text.takeOut();
        requireBody(body);
        fault = text.faultOfInputs(length);
        require(fault == NONE);
        int ticks = text.readCommands(length);
        if (ticks > MOST_TICKS_PLAYED) {
            throw new UnsupportedOperationException("more than 200 ticks");
        }
        for (int command = 0; command < text.commandCount; command++) {
            world.bodies[body].input = text.commandKeys[command];
            for (int passed = 0; passed < text.commandTicks[command]; passed++) {
                history.keep(world);
                world.advance(settings);
            }
        }
        return ticks;
    }

    public int faultPosition() {
        return fault;
    }

    public void save() {
        saved.copyFrom(world);
        System.arraycopy(settings, 0, savedSettings, 0, SETTINGS);
        hasSnapshot = true;
    }

    public void restore() throws IllegalStateException {
        if (!hasSnapshot) {
            throw new IllegalStateException("there is no snapshot");
        }
        world.copyFrom(saved);
        System.arraycopy(savedSettings, 0, settings, 0, SETTINGS);
        history.forget();
    }

    // ---- Tests of arguments and kinds ----

    private static boolean isWithin(int value, int least, int greatest) {
        return value >= least && value <= greatest;
    }

    private static boolean isTile(int column, int row) {
        return isWithin(column, 0, COLUMNS - 1) && isWithin(row, 0, ROWS - 1);
    }

    private static boolean isFirm(int kind) {
        return kind == SOLID || kind >= ICE && kind <= SPRING;
    }

    private static boolean isSlope(int kind) {
        return kind == RISES_RIGHT || kind == RISES_LEFT;
    }

    private static void require(boolean condition) {
        if (!condition) {
            throw new IllegalArgumentException("an argument or a text is out of range");
        }
    }

    private static void requireTile(int column, int row) {
        if (!isTile(column, row)) {
            throw new IndexOutOfBoundsException("no such tile");
        }
    }

    private void requireBody(int body) {
        if (!isWithin(body, 0, world.bodyCount - 1)) {
            throw new IndexOutOfBoundsException("no such body");
        }
    }

    private void requirePlatform(int platform) {
        if (!isWithin(platform, 0, world.platformCount - 1)) {
            throw new IndexOutOfBoundsException("no such platform");
        }
    }

    private void acceptTrialTiles() {
        if (trial.hasBlockedBody()) {
            throw new IllegalStateException("a body would be blocked");
        }
        world.tiles.copyFrom(trial.tiles);
        history.forget();
    }

    /** The tiles, and what they alone do to a box. */
    private static final class Tiles {
        final int[] kinds = new int[COLUMNS * ROWS];

        void copyFrom(Tiles other) {
            System.arraycopy(other.kinds, 0, kinds, 0, COLUMNS * ROWS);
        }

        /** The kind of any tile: beside the world all is solid, above and below the rows all is empty. */
        int kindAt(int column, int row) {
            if (column < 0 || column >= COLUMNS) {
                return SOLID;
            }
            if (row < 0 || row >= ROWS) {
                return EMPTY;
            }
            return kinds[row * COLUMNS + column];
        }

        void put(int column, int row, int kind) {
            if (isTile(column, row)) {
                kinds[row * COLUMNS + column] = kind;
            }
        }

        int countOf(int kind) {
            int found = 0;
            for (int i = 0; i < COLUMNS * ROWS; i++) {
                if (kinds[i] == kind) {
                    found++;
                }
            }
            return found;
        }

        /** The surface of the slope tile in which a cell lies, in the column of the cell. */
        int surfaceAt(int x, int y) {
            int row = y >> TILE_SHIFT;
            int kind = kindAt(x >> TILE_SHIFT, row);
            if (kind == RISES_RIGHT) {
                return TILE * row + x % TILE + 1;
            }
            if (kind == RISES_LEFT) {
                return TILE * row + TILE - x % TILE;
            }
            return NO_SURFACE;
        }

        boolean isFree(int x, int y) {
            return !isFirm(kindAt(x >> TILE_SHIFT, y >> TILE_SHIFT)) && y >= surfaceAt(x, y);
        }

        boolean block(Body body, int x, int y) {
            int lastColumn = body.lastColumnAt(x);
            int lastRow = body.lastRowAt(y);
            int firstRow = y >> TILE_SHIFT;
            int ignoredRow = isSlope(kindAt(body.footAt(x) >> TILE_SHIFT, firstRow)) ? firstRow : NONE;
            for (int column = x >> TILE_SHIFT; column <= lastColumn; column++) {
                for (int row = firstRow; row <= lastRow; row++) {
                    if (isFirm(kindAt(column, row)) && !isIgnored(column, row, ignoredRow)) {
                        return true;
                    }
                }
            }
            return false;
        }

        /** The set of the kinds of the firm cells directly below a box that support it as ground. */
        int firmKindsBelow(Body body, int x, int y) {
            int lastColumn = body.lastColumnAt(x);
            int row = (y - 1) >> TILE_SHIFT;
            int footRow = y >> TILE_SHIFT;
            int ignoredRow = isSlope(kindAt(body.footAt(x) >> TILE_SHIFT, footRow)) ? footRow : NONE;
            int set = 0;
            for (int column = x >> TILE_SHIFT; column <= lastColumn; column++) {
                int kind = kindAt(column, row);
                if (isFirm(kind) && !isIgnored(column, row, ignoredRow)) {
                    set |= 1 << kind;
                }
            }
            return set;
        }

        /** A foot in a slope tile makes the firm tiles of its row passable, but not the cells beside the world. */
        private static boolean isIgnored(int column, int row, int ignoredRow) {
            return row == ignoredRow && column >= 0 && column < COLUMNS;
        }

        boolean haveFloorBelow(Body body, int x, int y) {
            if (y % TILE != 0) {
                return false;
            }
            int lastColumn = body.lastColumnAt(x);
            for (int column = x >> TILE_SHIFT; column <= lastColumn; column++) {
                if (kindAt(column, (y - 1) >> TILE_SHIFT) == ONE_WAY) {
                    return true;
                }
            }
            return false;
        }

        boolean touch(Body body, int kind) {
            int lastColumn = body.lastColumnAt(body.x);
            int lastRow = body.lastRowAt(body.y);
            for (int column = body.x >> TILE_SHIFT; column <= lastColumn; column++) {
                for (int row = body.y >> TILE_SHIFT; row <= lastRow; row++) {
                    if (kindAt(column, row) == kind) {
                        return true;
                    }
                }
            }
            return false;
        }

        /** Empties the coin tiles that a body touches, and answers how many they were. */
        int giveCoins(Body body) {
            int given = 0;
            int lastColumn = body.lastColumnAt(body.x);
            int lastRow = body.lastRowAt(body.y);
            for (int column = body.x >> TILE_SHIFT; column <= lastColumn; column++) {
                for (int row = body.y >> TILE_SHIFT; row <= lastRow; row++) {
                    if (kindAt(column, row) == COIN) {
                        put(column, row, EMPTY);
                        given++;
                    }
                }
            }
            return given;
        }
    }

    /** A body with its speeds, counters, keys and statistics. */
    private static final class Body {
        int x;
        int y;
        int width;
        int height;
        int firstX;
        int firstY;
        int horizontal;
        int vertical;
        int late;
        int buffer;
        int dropping;
        int input;
        int earlierInput;
        boolean rises;
        int ticks;
        final int[] statistics = new int[STATISTICS];

        void begin(int newX, int newY, int newWidth, int newHeight) {
            x = newX;
            y = newY;
            firstX = newX;
            firstY = newY;
            width = newWidth;
            height = newHeight;
            input = 0;
            earlierInput = 0;
            ticks = 0;
            calmDown();
            for (int i = 0; i < STATISTICS; i++) {
                statistics[i] = 0;
            }
            statistics[HIGHEST] = newY;
        }

        void copyFrom(Body other) {
            x = other.x;
            y = other.y;
            width = other.width;
            height = other.height;
            firstX = other.firstX;
            firstY = other.firstY;
            horizontal = other.horizontal;
            vertical = other.vertical;
            late = other.late;
            buffer = other.buffer;
            dropping = other.dropping;
            input = other.input;
            earlierInput = other.earlierInput;
            rises = other.rises;
            ticks = other.ticks;
            System.arraycopy(other.statistics, 0, statistics, 0, STATISTICS);
        }

        int number(int what) {
            switch (what) {
                case 0:
                    return x;
                case 1:
                    return y;
                case 2:
                    return horizontal;
                case 3:
                    return vertical;
                case 4:
                    return late;
                case 5:
                    return buffer;
                case 6:
                    return dropping;
                case 7:
                    return width;
                case 8:
                    return height;
                default:
                    return input;
            }
        }

        int footAt(int boxX) {
            return boxX + width / 2;
        }

        int lastColumnAt(int boxX) {
            return (boxX + width - 1) >> TILE_SHIFT;
        }

        int lastRowAt(int boxY) {
            return (boxY + height - 1) >> TILE_SHIFT;
        }

        boolean covers(int cellX, int cellY) {
            return isWithin(cellX, x, x + width - 1) && isWithin(cellY, y, y + height - 1);
        }

        boolean holds(int key) {
            return (input & key) != 0;
        }

        int direction() {
            return (holds(RIGHT) ? 1 : 0) - (holds(LEFT) ? 1 : 0);
        }

        void calmDown() {
            horizontal = 0;
            vertical = 0;
            late = 0;
            buffer = 0;
            dropping = 0;
            rises = false;
        }

        void leap(int jumpSpeed) {
            vertical = jumpSpeed;
            buffer = 0;
            rises = true;
            statistics[JUMPS]++;
        }

        void die() {
            x = firstX;
            y = firstY;
            calmDown();
            statistics[DEATHS]++;
        }

        void endTick() {
            if (vertical <= 0) {
                rises = false;
            }
            // The y at which it was added counts no more once a tick has passed.
            if (ticks == 0 || y > statistics[HIGHEST]) {
                statistics[HIGHEST] = y;
            }
            ticks++;
            earlierInput = input;
        }
    }

    /** A moving platform; its y is the height at which riders stand. */
    private static final class Platform {
        int x;
        int y;
        int width;
        int dx;
        int dy;
        int range;
        int ticksLeft;

        void begin(int newX, int newY, int newWidth, int newDx, int newDy, int newRange) {
            x = newX;
            y = newY;
            width = newWidth;
            dx = newDx;
            dy = newDy;
            range = newRange;
            ticksLeft = newRange;
        }

        void copyFrom(Platform other) {
            begin(other.x, other.y, other.width, other.dx, other.dy, other.range);
            ticksLeft = other.ticksLeft;
        }

        int number(int what) {
            switch (what) {
                case 0:
                    return x;
                case 1:
                    return y;
                case 2:
                    return width;
                case 3:
                    return dx;
                case 4:
                    return dy;
                default:
                    return ticksLeft;
            }
        }

        boolean isUnder(Body body, int boxX, int boxY) {
            return y == boxY && boxX < x + width && x < boxX + body.width;
        }

        boolean isTopOf(int cellX, int cellY) {
            return y - 1 == cellY && isWithin(cellX, x, x + width - 1);
        }

        void move() {
            x += dx;
            y += dy;
            ticksLeft--;
            if (ticksLeft <= 0) {
                dx = -dx;
                dy = -dy;
                ticksLeft = range;
            }
        }
    }

    /** All that a tick changes. */
    private static final class World {
        final Tiles tiles = new Tiles();
        final Body[] bodies = new Body[MOST_BODIES];
        final Platform[] platforms = new Platform[MOST_PLATFORMS];
        final int[] carriers = new int[MOST_BODIES];
        int bodyCount;
        int platformCount;
        int time;

        World() {
            for (int i = 0; i < MOST_BODIES; i++) {
                bodies[i] = new Body();
            }
            for (int i = 0; i < MOST_PLATFORMS; i++) {
                platforms[i] = new Platform();
            }
        }

        void copyFrom(World other) {
            tiles.copyFrom(other.tiles);
            bodyCount = other.bodyCount;
            platformCount = other.platformCount;
            time = other.time;
            for (int i = 0; i < bodyCount; i++) {
                bodies[i].copyFrom(other.bodies[i]);
            }
            for (int i = 0; i < platformCount; i++) {
                platforms[i].copyFrom(other.platforms[i]);
            }
        }

        void dropOutBody(int number) {
            for (int i = number; i + 1 < bodyCount; i++) {
                bodies[i].copyFrom(bodies[i + 1]);
            }
            bodyCount--;
        }

        void dropOutPlatform(int number) {
            for (int i = number; i + 1 < platformCount; i++) {
                platforms[i].copyFrom(platforms[i + 1]);
            }
            platformCount--;
        }

        boolean hasBlockedBody() {
            for (int i = 0; i < bodyCount; i++) {
                if (tiles.block(bodies[i], bodies[i].x, bodies[i].y)) {
                    return true;
                }
            }
            return false;
        }

        // ---- Support and unit moves ----

        /** What supports a body at a position, but for one platform that is not asked. */
        int supportAt(Body body, int x, int y, int unaskedPlatform) {
            int set = 0;
            if (tiles.firmKindsBelow(body, x, y) != 0) {
                set |= GROUND;
            }
            if (tiles.surfaceAt(body.footAt(x), y - 1) == y) {
                set |= SLOPES;
            }
            if (body.dropping > 0) {
                return set;
            }
            if (tiles.haveFloorBelow(body, x, y)) {
                set |= FLOORS;
            }
            if (platformUnder(body, x, y, unaskedPlatform) != NONE) {
                set |= PLATFORMS;
            }
            return set;
        }

        int platformUnder(Body body, int x, int y, int unaskedPlatform) {
            for (int i = 0; i < platformCount; i++) {
                if (i != unaskedPlatform && platforms[i].isUnder(body, x, y)) {
                    return i;
                }
            }
            return NONE;
        }

        boolean isStanding(Body body) {
            return body.vertical <= 0 && supportAt(body, body.x, body.y, NONE) != 0;
        }

        /** Moves a body sideways by one unit, up or down along slopes and steps of one unit; false if that fails. */
        boolean stepSideways(Body body, int direction) {
            int newX = body.x + direction;
            int newY = body.y;
            int surface = tiles.surfaceAt(body.footAt(newX), newY);
            if (surface > body.y + 1) {
                return false;
            }
            if (surface == body.y + 1) {
                newY = surface;
            }
            if (tiles.block(body, newX, newY)) {
                return false;
            }
            if (supportAt(body, newX, newY, NONE) == 0
                    && supportAt(body, body.x, body.y, NONE) != 0
                    && supportAt(body, newX, newY - 1, NONE) != 0) {
                newY--;
            }
            body.x = newX;
            body.y = newY;
            return true;
        }

        boolean stepUp(Body body) {
            if (tiles.block(body, body.x, body.y + 1)) {
                return false;
            }
            body.y++;
            return true;
        }

        boolean stepDown(Body body, int unaskedPlatform) {
            if (supportAt(body, body.x, body.y, unaskedPlatform) != 0) {
                return false;
            }
            body.y--;
            return true;
        }

        // ---- A tick ----

        void advance(int[] settings) {
            noteCarriers();
            time++;
            movePlatforms();
            for (int i = 0; i < bodyCount; i++) {
                update(bodies[i], settings);
            }
        }

        void noteCarriers() {
            for (int i = 0; i < bodyCount; i++) {
                Body body = bodies[i];
                boolean canRide = body.vertical <= 0 && body.dropping == 0;
                carriers[i] = canRide ? platformUnder(body, body.x, body.y, NONE) : NONE;
            }
        }

        void movePlatforms() {
            for (int number = 0; number < platformCount; number++) {
                for (int i = 0; i < bodyCount; i++) {
                    if (carriers[i] == number) {
                        carry(bodies[i], number);
                    }
                }
                platforms[number].move();
            }
        }

        void carry(Body body, int number) {
            Platform platform = platforms[number];
            int direction = platform.dx < 0 ? -1 : 1;
            int sideways = Math.abs(platform.dx);
            while (sideways > 0 && stepSideways(body, direction)) {
                sideways--;
            }
            int up = platform.dy;
            while (up > 0 && stepUp(body)) {
                up--;
            }
            int down = -platform.dy;
            while (down > 0 && stepDown(body, number)) {
                down--;
            }
        }

        void update(Body body, int[] settings) {
            boolean stands = senseStanding(body, settings[LATE_TIME]);
            senseJumpKey(body, settings[BUFFER_TIME]);
            if (beginsToDrop(body, stands)) {
                stands = false;
            }
            int direction = body.direction();
            steer(body, stands, direction, settings[RUN_SPEED]);
            if (jumps(body, stands, settings)) {
                stands = false;
            }
            cutJump(body);
            if (stands) {
                rideBelts(body);
            } else {
                accelerateDown(body, direction);
            }
            run(body);
            riseOrFall(body);
            meetCoinsAndSpikes(body);
            body.endTick();
        }

        boolean senseStanding(Body body, int lateTime) {
            if (isStanding(body)) {
                body.late = lateTime;
                body.statistics[STOOD]++;
                return true;
            }
            if (body.late > 0) {
                body.late--;
            }
            return false;
        }

        void senseJumpKey(Body body, int bufferTime) {
            if (body.holds(JUMP) && (body.earlierInput & JUMP) == 0) {
                body.buffer = bufferTime;
            } else if (body.buffer > 0) {
                body.buffer--;
            }
        }

        boolean beginsToDrop(Body body, boolean stands) {
            if (body.dropping > 0) {
                body.dropping--;
            }
            if (!stands || !body.holds(DOWN) || body.buffer == 0) {
                return false;
            }
            if ((supportAt(body, body.x, body.y, NONE) & (GROUND | SLOPES)) != 0) {
                return false;
            }
            body.dropping = DROP_TIME;
            body.buffer = 0;
            body.late = 0;
            return true;
        }

        void steer(Body body, boolean stands, int direction, int runSpeed) {
            boolean hasGrip = stands && tiles.firmKindsBelow(body, body.x, body.y) != 1 << ICE;
            if (direction == 0) {
                if (hasGrip) {
                    body.horizontal = nearerToZero(body.horizontal);
                }
                return;
            }
            // Seen in the direction of the key, left and right are one case.
            int speed = body.horizontal * direction;
            if (speed < runSpeed) {
                body.horizontal = direction * Math.min(runSpeed, speed + (hasGrip ? 2 : 1));
            }
        }

        int nearerToZero(int speed) {
            return speed > 0 ? Math.max(0, speed - 2) : Math.min(0, speed + 2);
        }

        boolean jumps(Body body, boolean stands, int[] settings) {
            if (body.buffer == 0) {
                return false;
            }
            if (body.late > 0) {
                body.late = 0;
                body.leap(settings[JUMP_SPEED]);
                return true;
            }
            if (stands) {
                return false;
            }
            if (tiles.block(body, body.x + 1, body.y)) {
                body.horizontal = -settings[RUN_SPEED];
            } else if (tiles.block(body, body.x - 1, body.y)) {
                body.horizontal = settings[RUN_SPEED];
            } else {
                return false;
            }
            body.leap(settings[JUMP_SPEED]);
            return true;
        }

        void cutJump(Body body) {
            if (body.rises && body.vertical > CUT_SPEED && !body.holds(JUMP)) {
                body.vertical = CUT_SPEED;
            }
        }

        void accelerateDown(Body body, int direction) {
            body.vertical = Math.max(FASTEST_FALL, body.vertical - 1);
            if (direction != 0 && body.vertical < FASTEST_SLIDE && tiles.block(body, body.x + direction, body.y)) {
                body.vertical = FASTEST_SLIDE;
            }
        }

        void rideBelts(Body body) {
            // Both belts are looked for ahead of the first move.
            int kinds = tiles.firmKindsBelow(body, body.x, body.y);
            if ((kinds & 1 << BELT_RIGHT) != 0 && stepSideways(body, 1)) {
                body.statistics[MOVES]++;
            }
            if ((kinds & 1 << BELT_LEFT) != 0 && stepSideways(body, -1)) {
                body.statistics[MOVES]++;
            }
        }

        void run(Body body) {
            int direction = body.horizontal < 0 ? -1 : 1;
            for (int left = Math.abs(body.horizontal); left > 0; left--) {
                if (!stepSideways(body, direction)) {
                    body.horizontal = 0;
                    return;
                }
                body.statistics[MOVES]++;
            }
        }

        void riseOrFall(Body body) {
            for (int left = body.vertical; left > 0; left--) {
                if (!stepUp(body)) {
                    body.vertical = 0;
                    return;
                }
                body.statistics[MOVES]++;
            }
            for (int left = -body.vertical; left > 0; left--) {
                if (!stepDown(body, NONE)) {
                    land(body);
                    return;
                }
                body.statistics[MOVES]++;
            }
        }

        void land(Body body) {
            boolean onSpring = (tiles.firmKindsBelow(body, body.x, body.y) & 1 << SPRING) != 0;
            body.vertical = onSpring ? SPRING_SPEED : 0;
            body.statistics[LANDINGS]++;
        }

        void meetCoinsAndSpikes(Body body) {
            body.statistics[COINS] += tiles.giveCoins(body);
            if (body.y < LOWEST_LIVING_Y || tiles.touch(body, SPIKES)) {
                body.die();
            }
        }
    }

    /** The worlds ahead of the latest ticks, in a ring. */
    private static final class History {
        final World[] worlds = new World[KEPT_TICKS];
        int count;
        int next;

        History() {
            for (int i = 0; i < KEPT_TICKS; i++) {
                worlds[i] = new World();
            }
        }

        void keep(World world) {
            worlds[next].copyFrom(world);
            next = (next + 1) % KEPT_TICKS;
            count = Math.min(KEPT_TICKS, count + 1);
        }

        void bringBack(World world) {
            next = (next + KEPT_TICKS - 1) % KEPT_TICKS;
            count--;
            world.copyFrom(worlds[next]);
        }

        void forget() {
            count = 0;
        }
    }

    /** The text buffer and its readers. */
    private static final class Text {
        final char[] signs = new char[MOST_SIGNS];
        int length;
        final int[] commandKeys = new int[MOST_COMMANDS];
        final int[] commandTicks = new int[MOST_COMMANDS];
        int commandCount;

        /** Adds a sign; false if there is no room for it. */
        boolean takeIn(char c) {
            if (length >= MOST_SIGNS) {
                return false;
            }
            signs[length] = c;
            length++;
            return true;
        }

        /** Empties the buffer; the signs stay readable up to the length that it had. */
        int takeOut() {
            int taken = length;
            length = 0;
            return taken;
        }

        int tileAt(int index) {
            return placeOf(signs[index], TILE_SIGNS);
        }

        int faultOfTiles(int taken) {
            for (int i = 0; i < taken; i++) {
                if (i >= COLUMNS || tileAt(i) < 0) {
                    return i;
                }
            }
            return taken == 0 ? 0 : NONE;
        }

        int faultOfInputs(int taken) {
            // Ahead of the first letter it is as behind a second digit: only a letter can follow.
            int digits = 2;
            for (int i = 0; i < taken; i++) {
                if (isDigit(signs[i])) {
                    if (digits == 2) {
                        return i;
                    }
                    digits++;
                } else {
                    if (digits == 0 || placeOf(signs[i], INPUT_LETTERS) < 0) {
                        return i;
                    }
                    digits = 0;
                }
            }
            return taken == 0 || digits == 0 ? taken : NONE;
        }

        /** Takes a text without a fault apart into commands, and answers how many ticks they have together. */
        int readCommands(int taken) {
            int ticks = 0;
            int position = 0;
            commandCount = 0;
            while (position < taken && commandCount < MOST_COMMANDS) {
                int letter = placeOf(signs[position], INPUT_LETTERS);
                commandKeys[commandCount] = letter < 0 ? 0 : INPUT_KEYS[letter];
                position++;
                int number = 0;
                while (position < taken && isDigit(signs[position])) {
                    number = number * 10 + signs[position] - '0';
                    position++;
                }
                commandTicks[commandCount] = number;
                commandCount++;
                ticks += number;
            }
            return ticks;
        }

        private static int placeOf(char c, String known) {
            for (int i = 0; i < known.length(); i++) {
                if (known.charAt(i) == c) {
                    return i;
                }
            }
            return NONE;
        }

        private static boolean isDigit(char c) {
            return c >= '0' && c <= '9';
        }
    }
}
