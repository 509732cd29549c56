/** Aqueduct keepers: springs feed tanks, pipes lead from tank to tank, and days go by. */
public final class AqueductTanks {
    private static final int MOST_HEIGHT = 99;
    private static final int MOST_SPRING = 20;
    private static final int MOST_THIRST = 20;
    private static final int MOST_WIDTH = 20;
    private static final int MOST_DIP = 60;
    private static final int MOST_TAP = 9;
    private static final int MOST_DAYS = 100;
    private static final int MOST_ADVISED_DAYS = 60;
    private static final int MOST_FORESEEN_WHAT = 3;
    private static final int NONE = -1;

    private final Land land;
    // Made once and used again by every question about the future, so that no call makes objects.
    private final Land trial;

    public AqueductTanks() {
        land = new Land();
        trial = new Land();
    }

    // ---- tanks and pipes

    public int build(int height, int spring, int thirst) throws IllegalArgumentException, IllegalStateException {
        needArgument(isWithin(height, 0, MOST_HEIGHT));
        needArgument(isSpringAndThirst(spring, thirst));
        int number = land.addTank(height, spring, thirst);
        if (number == NONE) {
            throw new IllegalStateException("no more tanks can be built");
        }
        return number;
    }

    public int lay(int from, int to, int width, int dip)
            throws IndexOutOfBoundsException, IllegalArgumentException, IllegalStateException {
        needTank(from);
        needTank(to);
        needArgument(from != to);
        needArgument(isWithin(width, 1, MOST_WIDTH));
        needArgument(isWithin(dip, 0, MOST_DIP));
        int number = land.addPipe(from, to, width, dip);
        if (number == NONE) {
            throw new IllegalStateException("no more pipes can be laid");
        }
        return number;
    }

    public int set(int tank, int spring, int thirst) throws IndexOutOfBoundsException, IllegalArgumentException {
        needTank(tank);
        needArgument(isSpringAndThirst(spring, thirst));
        int[] row = land.tanks[tank];
        int before = 100 * row[Land.SPRING] + row[Land.THIRST];
        row[Land.SPRING] = spring;
        row[Land.THIRST] = thirst;
        return before;
    }

    public int flush(int tank) throws IndexOutOfBoundsException {
        needTank(tank);
        int[] row = land.tanks[tank];
        int before = row[Land.MUD];
        row[Land.MUD] = 0;
        row[Land.WATER] = row[Land.WATER] / 2;
        return before;
    }

    public int scrape(int pipe) throws IndexOutOfBoundsException {
        needPipe(pipe);
        int[] row = land.pipes[pipe];
        int before = row[Land.CRUST];
        row[Land.CRUST] = 0;
        return before;
    }

    public int steal(int pipe, int tap) throws IndexOutOfBoundsException, IllegalArgumentException {
        needPipe(pipe);
        needArgument(isWithin(tap, 0, MOST_TAP));
        int[] row = land.pipes[pipe];
        int before = row[Land.TAP];
        row[Land.TAP] = tap;
        return before;
    }

    // ---- what is there

    public int tank(int tank, int what) throws IndexOutOfBoundsException {
        needTank(tank);
        needIndex(isWithin(what, 0, Land.LAST_OF_TANK));
        return land.tanks[tank][what];
    }

    public int pipe(int pipe, int what) throws IndexOutOfBoundsException {
        needPipe(pipe);
        needIndex(isWithin(what, 0, Land.CAN_FLOW));
        return land.ofPipe(pipe, what);
    }

    public int count(int what) throws IndexOutOfBoundsException {
        needIndex(isWithin(what, 0, Land.LAST_OF_ALL));
        return land.ofAll(what);
    }

    public int reach(int tank) throws IndexOutOfBoundsException {
        needTank(tank);
        return land.reachedFrom(tank);
    }

    public int suspect() {
        int suspected = NONE;
        int most = 0;
        for (int pipe = 0; pipe < land.pipeCount; pipe++) {
            int lost = land.pipes[pipe][Land.LOST_LATELY];
            if (lost > most) {
                most = lost;
                suspected = pipe;
            }
        }
        return suspected;
    }

    // ---- days

    public int pass(int days) throws IllegalArgumentException {
        needArgument(isWithin(days, 1, MOST_DAYS));
        return land.drunkIn(days);
    }

    // ---- what would be

    public int foresee(int days, int what) throws IllegalArgumentException, IndexOutOfBoundsException {
        needArgument(isWithin(days, 1, MOST_DAYS));
        needIndex(isWithin(what, 0, MOST_FORESEEN_WHAT));
        trial.copyFrom(land);
        int drunk = trial.drunkIn(days);
        switch (what) {
            case 0:
                return drunk;
            case 1:
                return trial.sumOfPipes(Land.LOST_IN_ALL) - land.sumOfPipes(Land.LOST_IN_ALL);
            case 2:
                return trial.sumOfTanks(Land.WATER);
            default:
                return trial.sumOfPipes(Land.CRUST);
        }
    }

    public int advise(int days) throws IllegalArgumentException {
        needArgument(isWithin(days, 1, MOST_ADVISED_DAYS));
        trial.copyFrom(land);
        int most = trial.drunkIn(days);
        int advised = NONE;
        for (int pipe = 0; pipe < land.pipeCount; pipe++) {
            trial.copyFrom(land);
            trial.pipes[pipe][Land.CRUST] = 0;
            int drunk = trial.drunkIn(days);
            if (drunk > most) {
                most = drunk;
                advised = pipe;
            }
        }
        return advised;
    }

    public int sated(int tank) throws IndexOutOfBoundsException {
        needTank(tank);
        trial.copyFrom(land);
        for (int days = 1; days <= MOST_DAYS; days++) {
            trial.goThroughDay();
            if (!trial.isThirsty(tank)) {
                return days;
            }
        }
        return NONE;
    }

    public double mean() {
        if (land.day == 0) {
            return 0.0;
        }
        return (double) land.sumOfTanks(Land.DRUNK_IN_ALL) / land.day;
    }

    public long digest() {
        long sum = 1031L;
        for (int what = 0; what <= Land.LAST_OF_ALL; what++) {
            sum = sum * 31 + land.ofAll(what);
        }
        for (int tank = 0; tank < land.tankCount; tank++) {
            for (int what = 0; what <= Land.LAST_OF_TANK; what++) {
                sum = sum * 31 + land.tanks[tank][what];
            }
        }
        for (int pipe = 0; pipe < land.pipeCount; pipe++) {
            for (int what = 0; what <= Land.TAP; what++) {
                sum = sum * 31 + land.ofPipe(pipe, what);
            }
        }
        return sum;
    }

    // ---- what the calls ask of their arguments

    private static boolean isWithin(int number, int least, int most) {
        return number >= least && number <= most;
    }

    private static boolean isSpringAndThirst(int spring, int thirst) {
        return isWithin(spring, 0, MOST_SPRING) && isWithin(thirst, 0, MOST_THIRST);
    }

    private void needTank(int tank) {
        needIndex(tank >= 0 && tank < land.tankCount);
    }

    private void needPipe(int pipe) {
        needIndex(pipe >= 0 && pipe < land.pipeCount);
    }

    private static void needIndex(boolean isThere) {
        if (!isThere) {
            throw new IndexOutOfBoundsException("there is no such number");
        }
    }

    private static void needArgument(boolean isAllowed) {
        if (!isAllowed) {
            throw new IllegalArgumentException("an argument is out of its range");
        }
    }

    /** All tanks and pipes on one day; each tank and each pipe is a row of numbers. */
    private static final class Land {
        static final int MOST_TANKS = 10;
        static final int MOST_PIPES = 14;

        // The places in a tank's row are the numbers by which the document asks for them.
        static final int HEIGHT = 0;
        static final int SPRING = 1;
        static final int THIRST = 2;
        static final int WATER = 3;
        static final int MUD = 4;
        static final int DRUNK_LATELY = 5;
        static final int DRUNK_IN_ALL = 6;
        static final int SPILLED_IN_ALL = 7;
        static final int LAST_OF_TANK = 7;
        static final int PLACES_OF_TANK = 8;

        // So are those in a pipe's row; the place CAN_FLOW stays empty, since it is reckoned when
        // it is asked for, and the tap stands behind it because the checksum takes it last.
        static final int FROM = 0;
        static final int TO = 1;
        static final int WIDTH = 2;
        static final int DIP = 3;
        static final int CRUST = 4;
        static final int FLOWED_LATELY = 5;
        static final int LOST_LATELY = 6;
        static final int LOST_IN_ALL = 7;
        static final int CAN_FLOW = 8;
        static final int TAP = 9;
        static final int PLACES_OF_PIPE = 10;

        static final int LAST_OF_ALL = 8;

        static final int MOST_WATER = 200;
        static final int MOST_MUD = 99;
        static final int SPOILING_MUD = 50;
        static final int MOST_CRUST = 20;
        static final int DAYS_BETWEEN_CRUSTS = 4;

        final int[][] tanks;
        final int[][] pipes;
        int tankCount;
        int pipeCount;
        int day;

        Land() {
            tanks = new int[MOST_TANKS][PLACES_OF_TANK];
            pipes = new int[MOST_PIPES][PLACES_OF_PIPE];
        }

        int addTank(int height, int spring, int thirst) {
            if (tankCount >= MOST_TANKS) {
                return NONE;
            }
            int[] row = tanks[tankCount];
            row[HEIGHT] = height;
            row[SPRING] = spring;
            row[THIRST] = thirst;
            tankCount++;
            return tankCount - 1;
        }

        int addPipe(int from, int to, int width, int dip) {
            if (pipeCount >= MOST_PIPES) {
                return NONE;
            }
            int[] row = pipes[pipeCount];
            row[FROM] = from;
            row[TO] = to;
            row[WIDTH] = width;
            row[DIP] = dip;
            pipeCount++;
            return pipeCount - 1;
        }

        void copyFrom(Land other) {
            day = other.day;
            tankCount = other.tankCount;
            pipeCount = other.pipeCount;
            for (int tank = 0; tank < tankCount; tank++) {
                System.arraycopy(other.tanks[tank], 0, tanks[tank], 0, PLACES_OF_TANK);
            }
            for (int pipe = 0; pipe < pipeCount; pipe++) {
                System.arraycopy(other.pipes[pipe], 0, pipes[pipe], 0, PLACES_OF_PIPE);
            }
        }

        // ---- what is told

        int ofPipe(int pipe, int what) {
            return what == CAN_FLOW ? whatCanFlow(pipe) : pipes[pipe][what];
        }

        int ofAll(int what) {
            switch (what) {
                case 0:
                    return day;
                case 1:
                    return tankCount;
                case 2:
                    return pipeCount;
                case 3:
                    return sumOfTanks(WATER);
                case 4:
                    return sumOfTanks(MUD);
                case 5:
                    return sumOfTanks(DRUNK_IN_ALL);
                case 6:
                    return sumOfPipes(LOST_IN_ALL);
                case 7:
                    return sumOfTanks(SPILLED_IN_ALL);
                default:
                    return thirstyTanks();
            }
        }

        int sumOfTanks(int place) {
            int sum = 0;
            for (int tank = 0; tank < tankCount; tank++) {
                sum += tanks[tank][place];
            }
            return sum;
        }

        int sumOfPipes(int place) {
            int sum = 0;
            for (int pipe = 0; pipe < pipeCount; pipe++) {
                sum += pipes[pipe][place];
            }
            return sum;
        }

        boolean isThirsty(int tank) {
            return tanks[tank][DRUNK_LATELY] < tanks[tank][THIRST];
        }

        int thirstyTanks() {
            int thirsty = 0;
            for (int tank = 0; tank < tankCount; tank++) {
                if (isThirsty(tank)) {
                    thirsty++;
                }
            }
            return thirsty;
        }

        int reachedFrom(int start) {
            int reached = 0;
            // No way is longer than the number of tanks, and each round goes at least a pipe further.
            for (int round = 0; round < tankCount; round++) {
                for (int pipe = 0; pipe < pipeCount; pipe++) {
                    int from = pipes[pipe][FROM];
                    if (from == start || (reached & (1 << from)) != 0) {
                        reached |= 1 << pipes[pipe][TO];
                    }
                }
            }
            return reached;
        }

        int whatCanFlow(int pipe) {
            int[] row = pipes[pipe];
            int[] from = tanks[row[FROM]];
            int difference = head(from) - head(tanks[row[TO]]);
            if (difference <= 0 || difference < row[DIP]) {
                return 0;
            }
            int opening = Math.max(0, row[WIDTH] - row[CRUST]);
            int pressed = difference / 10 + 1;
            return Math.min(Math.min(opening, pressed), from[WATER]);
        }

        static int head(int[] tankRow) {
            return 10 * tankRow[HEIGHT] + tankRow[WATER];
        }

        // ---- what a day does

        int drunkIn(int days) {
            int before = sumOfTanks(DRUNK_IN_ALL);
            for (int gone = 0; gone < days; gone++) {
                goThroughDay();
            }
            return sumOfTanks(DRUNK_IN_ALL) - before;
        }

        void goThroughDay() {
            for (int tank = 0; tank < tankCount; tank++) {
                feed(tanks[tank]);
            }
            for (int pipe = 0; pipe < pipeCount; pipe++) {
                flowThrough(pipe);
            }
            if (day % DAYS_BETWEEN_CRUSTS == 0) {
                growCrusts();
            }
            for (int tank = 0; tank < tankCount; tank++) {
                drinkFrom(tanks[tank]);
            }
            day++;
        }

        static void feed(int[] tankRow) {
            takeInWater(tankRow, tankRow[SPRING]);
            takeInMud(tankRow, tankRow[SPRING] / 4);
        }

        void flowThrough(int pipe) {
            int[] row = pipes[pipe];
            int[] from = tanks[row[FROM]];
            int[] to = tanks[row[TO]];
            int flow = whatCanFlow(pipe);
            int lost = Math.min(row[TAP], flow);
            // Mud goes by its share of the water ahead of the flowing, so it wanders first.
            wanderMud(from, to, flow);
            from[WATER] -= flow;
            takeInWater(to, flow - lost);
            row[FLOWED_LATELY] = flow;
            row[LOST_LATELY] = lost;
            row[LOST_IN_ALL] += lost;
        }

        static void wanderMud(int[] from, int[] to, int flow) {
            if (from[WATER] <= 0) {
                return;
            }
            int wandering = from[MUD] * flow / from[WATER];
            from[MUD] -= wandering;
            takeInMud(to, wandering);
        }

        static void takeInWater(int[] tankRow, int coming) {
            int water = tankRow[WATER] + coming;
            int spilled = Math.max(0, water - MOST_WATER);
            tankRow[WATER] = water - spilled;
            tankRow[SPILLED_IN_ALL] += spilled;
        }

        static void takeInMud(int[] tankRow, int coming) {
            tankRow[MUD] = Math.min(MOST_MUD, tankRow[MUD] + coming);
        }

        void growCrusts() {
            for (int pipe = 0; pipe < pipeCount; pipe++) {
                int[] row = pipes[pipe];
                if (row[FLOWED_LATELY] > 0) {
                    row[CRUST] = Math.min(MOST_CRUST, row[CRUST] + 1);
                }
            }
        }

        static void drinkFrom(int[] tankRow) {
            int asked = tankRow[MUD] >= SPOILING_MUD ? tankRow[THIRST] / 2 : tankRow[THIRST];
            int drunk = Math.min(asked, tankRow[WATER]);
            tankRow[WATER] -= drunk;
            tankRow[DRUNK_LATELY] = drunk;
            tankRow[DRUNK_IN_ALL] += drunk;
        }
    }
}
