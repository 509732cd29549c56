/** Lands to start from, and the wrong numbers that the tests of edges share. */
final class Lands {
    private Lands() {
    }

    /**
     * Tanks by height, water and mud each, without springs, thirst and pipes, on a day that can be
     * divided by 4 and behind a day on which nothing was drunk.
     */
    static AqueductTanks with(int[]... tanks) {
        AqueductTanks x = new AqueductTanks();
        for (int[] tank : tanks) {
            x.build(tank[0], 0, 0);
        }
        for (int tank = 0; tank < tanks.length; tank++) {
            prepare(x, tank, tanks[tank][1], tanks[tank][2]);
        }
        x.pass(4 - x.count(0) % 4);
        return x;
    }

    /** As many tanks as asked for: each 10 lower than the one before, and dry. */
    static AqueductTanks dry(int tanks) {
        AqueductTanks x = new AqueductTanks();
        for (int tank = 0; tank < tanks; tank++) {
            x.build(10 * (9 - tank), 0, 0);
        }
        return x;
    }

    /** A full tank high above a dry one, and pipes as wide as can be from the one to the other. */
    static AqueductTanks falling(int pipes) {
        AqueductTanks x = with(new int[] {99, 200, 0}, new int[] {0, 0, 0});
        for (int pipe = 0; pipe < pipes; pipe++) {
            x.lay(0, 1, 20, 0);
        }
        return x;
    }

    /** Numbers that are not from the least to the most; some would be if they were cut to a byte or a short. */
    static int[] outside(int least, int most) {
        return new int[] {Integer.MIN_VALUE, least - 65536, least - 256, least - 1,
            most + 1, least + 256, least + 65536, Integer.MAX_VALUE};
    }

    private static void prepare(AqueductTanks x, int tank, int water, int mud) {
        // A spring of 4 brings 1 mud a day, one of 3 brings none.
        stay(x, tank, 4, 0, mud);
        int there = x.tank(tank, 3);
        if (there < water) {
            stay(x, tank, 3, 0, (water - there) / 3);
            stay(x, tank, (water - there) % 3, 0, 1);
        } else {
            int spoiling = mud >= 50 ? 2 : 1;
            int drunkInDay = 20 / spoiling;
            stay(x, tank, 0, 20, (there - water) / drunkInDay);
            stay(x, tank, 0, (there - water) % drunkInDay * spoiling, 1);
        }
        x.set(tank, 0, 0);
        if (x.tank(tank, 3) != water || x.tank(tank, 4) != mud) {
            throw new IllegalStateException("tank " + tank + " could not be prepared: " + water + ", " + mud);
        }
    }

    private static void stay(AqueductTanks x, int tank, int spring, int thirst, int days) {
        if (days > 0) {
            x.set(tank, spring, thirst);
            x.pass(days);
        }
    }
}
