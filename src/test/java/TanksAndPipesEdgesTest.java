/** The edges that the promises 1 to 7 name: each sentence with a test of its own. */
public final class TanksAndPipesEdgesTest {
    private static final Class<?> INDEX = IndexOutOfBoundsException.class;
    private static final Class<?> ARGUMENT = IllegalArgumentException.class;
    private static final Class<?> STATE = IllegalStateException.class;
    private static final Check CHECK = new Check();

    public static void main(String[] args) {
        CHECK.run(TanksAndPipesEdgesTest::newLand);
        CHECK.run(TanksAndPipesEdgesTest::newLandAsked);
        CHECK.run(TanksAndPipesEdgesTest::buildNumber);
        CHECK.run(TanksAndPipesEdgesTest::buildArguments);
        CHECK.run(TanksAndPipesEdgesTest::buildTooMany);
        CHECK.run(TanksAndPipesEdgesTest::layNumber);
        CHECK.run(TanksAndPipesEdgesTest::layNoTank);
        CHECK.run(TanksAndPipesEdgesTest::layArguments);
        CHECK.run(TanksAndPipesEdgesTest::layTooMany);
        CHECK.run(TanksAndPipesEdgesTest::setAsBefore);
        CHECK.run(TanksAndPipesEdgesTest::setNoTank);
        CHECK.run(TanksAndPipesEdgesTest::setArguments);
        CHECK.run(TanksAndPipesEdgesTest::flushHalf);
        CHECK.run(TanksAndPipesEdgesTest::flushMud);
        CHECK.run(TanksAndPipesEdgesTest::flushNoTank);
        CHECK.run(TanksAndPipesEdgesTest::scrapeAll);
        CHECK.run(TanksAndPipesEdgesTest::scrapeNoPipe);
        CHECK.run(TanksAndPipesEdgesTest::stealNone);
        CHECK.run(TanksAndPipesEdgesTest::stealBefore);
        CHECK.run(TanksAndPipesEdgesTest::stealNoPipe);
        CHECK.run(TanksAndPipesEdgesTest::stealArguments);
        CHECK.end();
    }

    private static int[] tank(int height, int water, int mud) {
        return new int[] {height, water, mud};
    }

    // ---- promise 1

    private static void newLand() {
        CHECK.sentence("Creates a land without tanks, on the day 0.");
        AqueductTanks used = Lands.falling(1);
        used.pass(3);
        AqueductTanks x = new AqueductTanks();
        for (int what = 0; what <= 8; what++) {
            CHECK.same("count(" + what + ")", x.count(what), 0);
        }
        CHECK.refusedBy(x, "tank(0, 0)", INDEX, () -> x.tank(0, 0));
        CHECK.refusedBy(x, "pipe(0, 0)", INDEX, () -> x.pipe(0, 0));
        CHECK.same("build(1, 2, 3), the first", x.build(1, 2, 3), 0);
        CHECK.same("the one used before has its own: count(1)", used.count(1), 2);
    }

    private static void newLandAsked() {
        CHECK.sentence("Creates a land without tanks, on the day 0. (which answers all that can be asked)");
        AqueductTanks x = new AqueductTanks();
        CHECK.same("suspect()", x.suspect(), -1);
        CHECK.same("advise(1)", x.advise(1), -1);
        CHECK.same("advise(60)", x.advise(60), -1);
        CHECK.sameDouble("mean()", x.mean(), 0.0);
        CHECK.refusedBy(x, "reach(0)", INDEX, () -> x.reach(0));
        CHECK.refusedBy(x, "sated(0)", INDEX, () -> x.sated(0));
        CHECK.refusedBy(x, "set(0, 0, 0)", INDEX, () -> x.set(0, 0, 0));
        CHECK.refusedBy(x, "flush(0)", INDEX, () -> x.flush(0));
        CHECK.refusedBy(x, "scrape(0)", INDEX, () -> x.scrape(0));
        CHECK.refusedBy(x, "steal(0, 0)", INDEX, () -> x.steal(0, 0));
        CHECK.refusedBy(x, "lay(0, 1, 1, 0)", INDEX, () -> x.lay(0, 1, 1, 0));
        CHECK.same("pass(100)", x.pass(100), 0);
        CHECK.same("count(0)", x.count(0), 100);
    }

    // ---- promise 2

    private static void buildNumber() {
        CHECK.sentence("Returns its number. (build)");
        AqueductTanks x = new AqueductTanks();
        CHECK.same("build(99, 20, 20)", x.build(99, 20, 20), 0);
        x.pass(5);
        CHECK.refused("build(100, 0, 0)", ARGUMENT, () -> x.build(100, 0, 0));
        CHECK.same("after days and a refusal: build(0, 0, 0)", x.build(0, 0, 0), 1);
        CHECK.same("just like it: build(0, 0, 0)", x.build(0, 0, 0), 2);
    }

    private static void buildArguments() {
        CHECK.sentence("Throws IllegalArgumentException if height is not 0 to 99, or spring or thirst is not 0 to 20");
        AqueductTanks x = new AqueductTanks();
        for (int height : Lands.outside(0, 99)) {
            CHECK.refusedBy(x, "build(" + height + ", 0, 0)", ARGUMENT, () -> x.build(height, 0, 0));
        }
        for (int wrong : Lands.outside(0, 20)) {
            CHECK.refusedBy(x, "build(0, " + wrong + ", 0)", ARGUMENT, () -> x.build(0, wrong, 0));
            CHECK.refusedBy(x, "build(0, 0, " + wrong + ")", ARGUMENT, () -> x.build(0, 0, wrong));
            CHECK.refusedBy(x, "build(99, " + wrong + ", 20)", ARGUMENT, () -> x.build(99, wrong, 20));
            CHECK.refusedBy(x, "build(99, 20, " + wrong + ")", ARGUMENT, () -> x.build(99, 20, wrong));
        }
        CHECK.same("the least: build(0, 0, 0)", x.build(0, 0, 0), 0);
        CHECK.same("the most: build(99, 20, 20)", x.build(99, 20, 20), 1);
    }

    private static void buildTooMany() {
        CHECK.sentence("Throws IllegalStateException if there are 10");
        AqueductTanks x = Lands.dry(9);
        CHECK.same("the tenth: build(0, 0, 0)", x.build(0, 0, 0), 9);
        CHECK.refusedBy(x, "build(0, 0, 0)", STATE, () -> x.build(0, 0, 0));
        CHECK.refusedBy(x, "build(99, 20, 20)", STATE, () -> x.build(99, 20, 20));
        x.pass(1);
        CHECK.refusedBy(x, "a day later: build(0, 0, 0)", STATE, () -> x.build(0, 0, 0));
    }

    // ---- promise 3

    private static void layNumber() {
        CHECK.sentence("Returns its number. (lay)");
        AqueductTanks x = Lands.dry(3);
        CHECK.same("lay(2, 0, 20, 60)", x.lay(2, 0, 20, 60), 0);
        x.pass(5);
        CHECK.refused("lay(0, 1, 0, 0)", ARGUMENT, () -> x.lay(0, 1, 0, 0));
        CHECK.same("after days and a refusal: lay(0, 1, 1, 0)", x.lay(0, 1, 1, 0), 1);
        CHECK.same("just like it: lay(0, 1, 1, 0)", x.lay(0, 1, 1, 0), 2);
    }

    private static void layNoTank() {
        CHECK.sentence("Throws IndexOutOfBoundsException if there is no such tank (lay)");
        AqueductTanks x = Lands.dry(3);
        for (int wrong : Lands.outside(0, 2)) {
            CHECK.refusedBy(x, "lay(" + wrong + ", 0, 1, 0)", INDEX, () -> x.lay(wrong, 0, 1, 0));
            CHECK.refusedBy(x, "lay(0, " + wrong + ", 1, 0)", INDEX, () -> x.lay(0, wrong, 1, 0));
            CHECK.refusedBy(x, "lay(" + wrong + ", " + wrong + ", 1, 0)", INDEX, () -> x.lay(wrong, wrong, 1, 0));
        }
        CHECK.same("the last: lay(0, 2, 1, 0)", x.lay(0, 2, 1, 0), 0);
        CHECK.same("the last: lay(2, 0, 1, 0)", x.lay(2, 0, 1, 0), 1);
        AqueductTanks full = Lands.dry(10);
        CHECK.refusedBy(full, "of ten: lay(10, 0, 1, 0)", INDEX, () -> full.lay(10, 0, 1, 0));
        CHECK.refusedBy(full, "of ten: lay(0, 10, 1, 0)", INDEX, () -> full.lay(0, 10, 1, 0));
    }

    private static void layArguments() {
        CHECK.sentence("Throws IllegalArgumentException if both are the same, width is not 1 to 20, or dip is not 0 to 60");
        AqueductTanks x = Lands.dry(2);
        CHECK.refusedBy(x, "lay(0, 0, 1, 0)", ARGUMENT, () -> x.lay(0, 0, 1, 0));
        CHECK.refusedBy(x, "lay(1, 1, 20, 60)", ARGUMENT, () -> x.lay(1, 1, 20, 60));
        for (int width : Lands.outside(1, 20)) {
            CHECK.refusedBy(x, "lay(0, 1, " + width + ", 0)", ARGUMENT, () -> x.lay(0, 1, width, 0));
            CHECK.refusedBy(x, "lay(1, 0, " + width + ", 60)", ARGUMENT, () -> x.lay(1, 0, width, 60));
        }
        for (int dip : Lands.outside(0, 60)) {
            CHECK.refusedBy(x, "lay(0, 1, 1, " + dip + ")", ARGUMENT, () -> x.lay(0, 1, 1, dip));
            CHECK.refusedBy(x, "lay(1, 0, 20, " + dip + ")", ARGUMENT, () -> x.lay(1, 0, 20, dip));
        }
        CHECK.same("the least: lay(0, 1, 1, 0)", x.lay(0, 1, 1, 0), 0);
        CHECK.same("the most: lay(0, 1, 20, 60)", x.lay(0, 1, 20, 60), 1);
    }

    private static void layTooMany() {
        CHECK.sentence("Throws IllegalStateException if there are 14");
        AqueductTanks x = Lands.dry(2);
        for (int pipe = 0; pipe < 13; pipe++) {
            x.lay(0, 1, 1, 0);
        }
        CHECK.same("the fourteenth: lay(1, 0, 1, 0)", x.lay(1, 0, 1, 0), 13);
        CHECK.refusedBy(x, "lay(0, 1, 1, 0)", STATE, () -> x.lay(0, 1, 1, 0));
        CHECK.refusedBy(x, "lay(1, 0, 20, 60)", STATE, () -> x.lay(1, 0, 20, 60));
        x.build(0, 0, 0);
        CHECK.refusedBy(x, "to a new tank: lay(0, 2, 1, 0)", STATE, () -> x.lay(0, 2, 1, 0));
    }

    // ---- promise 4

    private static void setAsBefore() {
        CHECK.sentence("Returns 100 * spring + thirst, as they were before.");
        AqueductTanks x = new AqueductTanks();
        x.build(5, 0, 0);
        CHECK.same("set(0, 20, 20)", x.set(0, 20, 20), 0);
        CHECK.same("set(0, 20, 20) again", x.set(0, 20, 20), 2020);
        CHECK.same("set(0, 0, 20)", x.set(0, 0, 20), 2020);
        CHECK.same("set(0, 20, 0)", x.set(0, 20, 0), 20);
        CHECK.same("set(0, 0, 0)", x.set(0, 0, 0), 2000);
        CHECK.refused("set(0, 1, 21)", ARGUMENT, () -> x.set(0, 1, 21));
        CHECK.same("after a refusal: set(0, 0, 0)", x.set(0, 0, 0), 0);
    }

    private static void setNoTank() {
        CHECK.sentence("Throws IndexOutOfBoundsException if there is no such tank (set)");
        AqueductTanks x = Lands.dry(3);
        for (int wrong : Lands.outside(0, 2)) {
            CHECK.refusedBy(x, "set(" + wrong + ", 0, 0)", INDEX, () -> x.set(wrong, 0, 0));
        }
        CHECK.same("the last: set(2, 0, 0)", x.set(2, 0, 0), 0);
        AqueductTanks full = Lands.dry(10);
        CHECK.refusedBy(full, "of ten: set(10, 0, 0)", INDEX, () -> full.set(10, 0, 0));
    }

    private static void setArguments() {
        CHECK.sentence("Throws IllegalArgumentException if spring or thirst is not 0 to 20");
        AqueductTanks x = Lands.dry(1);
        for (int wrong : Lands.outside(0, 20)) {
            CHECK.refusedBy(x, "set(0, " + wrong + ", 0)", ARGUMENT, () -> x.set(0, wrong, 0));
            CHECK.refusedBy(x, "set(0, 0, " + wrong + ")", ARGUMENT, () -> x.set(0, 0, wrong));
            CHECK.refusedBy(x, "set(0, 20, " + wrong + ")", ARGUMENT, () -> x.set(0, 20, wrong));
        }
        CHECK.same("the most: set(0, 20, 20)", x.set(0, 20, 20), 0);
        CHECK.same("the least: set(0, 0, 0)", x.set(0, 0, 0), 2020);
    }

    // ---- promise 5

    private static void flushHalf() {
        CHECK.sentence("Flushes a tank: it has no mud, and half of its water, cut.");
        int[][] rows = {{0, 0}, {1, 0}, {2, 1}, {3, 1}, {199, 99}, {200, 100}};
        for (int[] row : rows) {
            AqueductTanks x = Lands.with(tank(0, row[0], 99), tank(0, 51, 3));
            int spilled = x.tank(0, 7);
            int drunk = x.count(5);
            x.flush(0);
            CHECK.same("a water of " + row[0] + ": tank(0, 3)", x.tank(0, 3), row[1]);
            CHECK.same("a water of " + row[0] + ": tank(0, 4)", x.tank(0, 4), 0);
            CHECK.same("it is not spilled: tank(0, 7)", x.tank(0, 7), spilled);
            CHECK.same("it is not drunk: count(5)", x.count(5), drunk);
            CHECK.same("the other one: tank(1, 3)", x.tank(1, 3), 51);
            CHECK.same("the other one: tank(1, 4)", x.tank(1, 4), 3);
        }
    }

    private static void flushMud() {
        CHECK.sentence("Returns the mud that it had.");
        int[] muds = {0, 1, 50, 98, 99};
        for (int mud : muds) {
            AqueductTanks x = Lands.with(tank(0, 20, mud));
            CHECK.same("a mud of " + mud + ": flush(0)", x.flush(0), mud);
            CHECK.same("flush(0) again", x.flush(0), 0);
        }
    }

    private static void flushNoTank() {
        CHECK.sentence("Throws IndexOutOfBoundsException if there is no such tank (flush)");
        AqueductTanks x = Lands.with(tank(0, 20, 5), tank(0, 20, 5));
        for (int wrong : Lands.outside(0, 1)) {
            CHECK.refusedBy(x, "flush(" + wrong + ")", INDEX, () -> x.flush(wrong));
        }
        CHECK.same("the last: flush(1)", x.flush(1), 5);
        AqueductTanks full = Lands.dry(10);
        CHECK.refusedBy(full, "of ten: flush(10)", INDEX, () -> full.flush(10));
    }

    // ---- promise 6

    private static void scrapeAll() {
        CHECK.sentence("Returns the crust that is scraped out of it: all.");
        AqueductTanks x = Lands.falling(2);
        CHECK.same("none: scrape(0)", x.scrape(0), 0);
        x.set(0, 20, 0);
        x.set(1, 0, 20);
        x.pass(1);
        CHECK.same("the least: scrape(0)", x.scrape(0), 1);
        // Crust grows on twenty of these days.
        x.pass(80);
        CHECK.same("the most: pipe(0, 4)", x.pipe(0, 4), 20);
        CHECK.same("the most: scrape(0)", x.scrape(0), 20);
        CHECK.same("scraped: pipe(0, 4)", x.pipe(0, 4), 0);
        CHECK.same("scraped: scrape(0)", x.scrape(0), 0);
        CHECK.same("the other one: pipe(1, 4)", x.pipe(1, 4), 20);
    }

    private static void scrapeNoPipe() {
        CHECK.sentence("Throws IndexOutOfBoundsException if there is no such pipe (scrape)");
        AqueductTanks x = Lands.falling(2);
        x.pass(1);
        for (int wrong : Lands.outside(0, 1)) {
            CHECK.refusedBy(x, "scrape(" + wrong + ")", INDEX, () -> x.scrape(wrong));
        }
        CHECK.same("the last: scrape(1)", x.scrape(1), 1);
        AqueductTanks full = Lands.falling(14);
        CHECK.same("of fourteen: scrape(13)", full.scrape(13), 0);
        CHECK.refusedBy(full, "of fourteen: scrape(14)", INDEX, () -> full.scrape(14));
    }

    // ---- promise 7

    private static void stealNone() {
        CHECK.sentence("its stolen tap from now on, 0 for none");
        AqueductTanks x = Lands.falling(2);
        x.steal(1, 9);
        x.pass(1);
        CHECK.same("a tap of 9: pipe(1, 6)", x.pipe(1, 6), 9);
        x.steal(1, 0);
        CHECK.same("it was lost on the latest day: pipe(1, 6)", x.pipe(1, 6), 9);
        x.pass(1);
        CHECK.same("none: pipe(1, 6)", x.pipe(1, 6), 0);
        CHECK.same("none: pipe(1, 7)", x.pipe(1, 7), 9);
        CHECK.same("none: suspect()", x.suspect(), -1);
    }

    private static void stealBefore() {
        CHECK.sentence("Returns the one before.");
        AqueductTanks x = Lands.falling(1);
        CHECK.same("steal(0, 9)", x.steal(0, 9), 0);
        CHECK.same("steal(0, 9) again", x.steal(0, 9), 9);
        CHECK.same("steal(0, 0)", x.steal(0, 0), 9);
        CHECK.refused("steal(0, 10)", ARGUMENT, () -> x.steal(0, 10));
        CHECK.same("after a refusal: steal(0, 1)", x.steal(0, 1), 0);
    }

    private static void stealNoPipe() {
        CHECK.sentence("Throws IndexOutOfBoundsException if there is no such pipe (steal)");
        AqueductTanks x = Lands.falling(2);
        for (int wrong : Lands.outside(0, 1)) {
            CHECK.refusedBy(x, "steal(" + wrong + ", 1)", INDEX, () -> x.steal(wrong, 1));
        }
        CHECK.same("the last: steal(1, 1)", x.steal(1, 1), 0);
        AqueductTanks full = Lands.falling(14);
        CHECK.same("of fourteen: steal(13, 1)", full.steal(13, 1), 0);
        CHECK.refusedBy(full, "of fourteen: steal(14, 1)", INDEX, () -> full.steal(14, 1));
    }

    private static void stealArguments() {
        CHECK.sentence("Throws IllegalArgumentException if tap is not 0 to 9");
        AqueductTanks x = Lands.falling(1);
        x.steal(0, 4);
        for (int wrong : Lands.outside(0, 9)) {
            CHECK.refusedBy(x, "steal(0, " + wrong + ")", ARGUMENT, () -> x.steal(0, wrong));
        }
        CHECK.same("the most: steal(0, 9)", x.steal(0, 9), 4);
        CHECK.same("the least: steal(0, 0)", x.steal(0, 0), 9);
    }
}
