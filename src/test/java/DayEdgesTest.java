/** The edges of what can flow and of a day, as 'Terms' names them: each sentence with a test of its own. */
public final class DayEdgesTest {
    private static final Check CHECK = new Check();

    public static void main(String[] args) {
        CHECK.run(DayEdgesTest::lessThanDip);
        CHECK.run(DayEdgesTest::zeroOrLess);
        CHECK.run(DayEdgesTest::widthLessCrust);
        CHECK.run(DayEdgesTest::tenthOfDifference);
        CHECK.run(DayEdgesTest::waterOfTheTank);
        CHECK.run(DayEdgesTest::springWater);
        CHECK.run(DayEdgesTest::springMud);
        CHECK.run(DayEdgesTest::springMudStays);
        CHECK.run(DayEdgesTest::pipesByNumbers);
        CHECK.run(DayEdgesTest::leavesTheOneTank);
        CHECK.run(DayEdgesTest::stolenTap);
        CHECK.run(DayEdgesTest::restComes);
        CHECK.run(DayEdgesTest::wanderingMud);
        CHECK.run(DayEdgesTest::wanderingMudStays);
        CHECK.run(DayEdgesTest::daysOfCrust);
        CHECK.run(DayEdgesTest::flowedOnThisDay);
        CHECK.run(DayEdgesTest::mostCrust);
        CHECK.run(DayEdgesTest::fountainsInTheirTurn);
        CHECK.run(DayEdgesTest::muddyFountains);
        CHECK.run(DayEdgesTest::muddyAtThatMoment);
        CHECK.run(DayEdgesTest::dryFountains);
        CHECK.run(DayEdgesTest::dayIsGreater);
        CHECK.end();
    }

    private static int[] tank(int height, int water, int mud) {
        return new int[] {height, water, mud};
    }

    /** Two tanks of one height whose waters differ by so much. */
    private static AqueductTanks differing(int by) {
        return Lands.with(tank(10, 100 + by, 0), tank(10, 100, 0));
    }

    private static void flows(String told, AqueductTanks x, int pipe, int due) {
        CHECK.same(told + ": pipe(" + pipe + ", 8)", x.pipe(pipe, 8), due);
        x.pass(1);
        CHECK.same(told + ", pass(1): pipe(" + pipe + ", 5)", x.pipe(pipe, 5), due);
    }

    // ---- what can flow

    private static void lessThanDip() {
        CHECK.sentence("nothing, if the head of the tank from which it leads, less that of the other one, is less than its dip");
        // The difference, the dip, what is due.
        int[][] rows = {{59, 60, 0}, {60, 60, 7}, {61, 60, 7}, {0, 1, 0}, {1, 1, 1}, {2, 1, 1}, {29, 30, 0}, {30, 30, 4},
            {1, 0, 1}, {-60, 60, 0}, {100, 60, 11}};
        for (int[] row : rows) {
            AqueductTanks x = differing(row[0]);
            x.lay(0, 1, 20, row[1]);
            flows("a difference of " + row[0] + ", a dip of " + row[1], x, 0, row[2]);
        }
    }

    private static void zeroOrLess() {
        CHECK.sentence("or 0 or less");
        int[][] rows = {{1, 1}, {0, 0}, {-1, 0}, {-5, 0}, {-9, 0}, {-10, 0}, {-100, 0}};
        for (int[] row : rows) {
            AqueductTanks x = differing(row[0]);
            x.lay(0, 1, 20, 0);
            flows("a difference of " + row[0] + ", no dip", x, 0, row[1]);
        }
    }

    private static void widthLessCrust() {
        CHECK.sentence("otherwise its width less its crust, at least 0");
        AqueductTanks x = Lands.falling(0);
        x.lay(0, 1, 1, 0);
        x.lay(0, 1, 2, 0);
        x.lay(0, 1, 3, 0);
        CHECK.same("no crust, a width of 1: pipe(0, 8)", x.pipe(0, 8), 1);
        x.pass(1);
        int[] first = {0, 1, 2};
        for (int pipe = 0; pipe < 3; pipe++) {
            CHECK.same("a crust of 1, a width of " + (pipe + 1) + ": pipe(" + pipe + ", 8)", x.pipe(pipe, 8), first[pipe]);
        }
        x.pass(4);
        int[] second = {0, 0, 1};
        for (int pipe = 0; pipe < 3; pipe++) {
            CHECK.same("4 days later: pipe(" + pipe + ", 8)", x.pipe(pipe, 8), second[pipe]);
            CHECK.same("flowed: pipe(" + pipe + ", 5)", x.pipe(pipe, 5), first[pipe]);
        }
        x.pass(40);
        for (int pipe = 0; pipe < 3; pipe++) {
            CHECK.same("closed: pipe(" + pipe + ", 8)", x.pipe(pipe, 8), 0);
            CHECK.same("closed: pipe(" + pipe + ", 5)", x.pipe(pipe, 5), 0);
            CHECK.same("closed: scrape(" + pipe + ")", x.scrape(pipe), pipe + 1);
            CHECK.same("scraped: pipe(" + pipe + ", 8)", x.pipe(pipe, 8), pipe + 1);
        }
    }

    private static void tenthOfDifference() {
        CHECK.sentence("but not more than a tenth of this difference and 1, added");
        int[][] rows = {{1, 1}, {9, 1}, {10, 2}, {11, 2}, {19, 2}, {20, 3}, {99, 10}, {100, 11}};
        for (int[] row : rows) {
            AqueductTanks x = differing(row[0]);
            x.lay(0, 1, 20, 0);
            flows("a difference of " + row[0], x, 0, row[1]);
        }
        AqueductTanks y = Lands.with(tank(20, 100, 0), tank(2, 91, 0));
        y.lay(0, 1, 20, 0);
        flows("a difference of 189", y, 0, 19);
        AqueductTanks z = Lands.with(tank(20, 100, 0), tank(2, 90, 0));
        z.lay(0, 1, 20, 0);
        flows("a difference of 190, as much as the width", z, 0, 20);
    }

    private static void waterOfTheTank() {
        CHECK.sentence("and not more than the water of the tank from which it leads");
        int[][] rows = {{0, 0}, {1, 1}, {19, 19}, {20, 20}, {21, 20}};
        for (int[] row : rows) {
            AqueductTanks x = Lands.with(tank(99, row[0], 0), tank(0, 50, 0));
            x.lay(0, 1, 20, 0);
            flows("a water of " + row[0], x, 0, row[1]);
            CHECK.same("left of " + row[0] + ": tank(0, 3)", x.tank(0, 3), row[0] - row[1]);
        }
    }

    // ---- 1. springs

    private static void springWater() {
        CHECK.sentence("as much water as the spring comes into the tank");
        int[] springs = {0, 1, 19, 20};
        for (int spring : springs) {
            AqueductTanks x = Lands.with(tank(5, 0, 0), tank(5, 180, 0));
            x.set(0, spring, 0);
            x.set(1, spring, 0);
            x.pass(1);
            CHECK.same("a spring of " + spring + ": tank(0, 3)", x.tank(0, 3), spring);
            CHECK.same("a spring of " + spring + ": tank(1, 3)", x.tank(1, 3), 180 + spring);
        }
    }

    private static void springMud() {
        CHECK.sentence("and a quarter of this as mud");
        int[] due = {0, 0, 0, 0, 1, 1, 1, 1, 2, 2, 2, 2, 3, 3, 3, 3, 4, 4, 4, 4, 5};
        for (int spring = 0; spring <= 20; spring++) {
            AqueductTanks x = new AqueductTanks();
            x.build(0, spring, 0);
            x.pass(1);
            CHECK.same("a spring of " + spring + ": tank(0, 4)", x.tank(0, 4), due[spring]);
        }
        AqueductTanks full = Lands.with(tank(0, 200, 0));
        full.set(0, 20, 0);
        full.pass(1);
        CHECK.same("a full tank: tank(0, 4)", full.tank(0, 4), 5);
    }

    private static void springMudStays() {
        CHECK.sentence("(of which 99 stay)");
        // Mud ahead, the spring, mud behind.
        int[][] rows = {{93, 20, 98}, {94, 20, 99}, {95, 20, 99}, {98, 4, 99}, {99, 4, 99}, {99, 20, 99}, {99, 3, 99}};
        for (int[] row : rows) {
            AqueductTanks x = Lands.with(tank(0, 10, row[0]));
            x.set(0, row[1], 0);
            x.pass(1);
            CHECK.same("a mud of " + row[0] + ", a spring of " + row[1] + ": tank(0, 4)", x.tank(0, 4), row[2]);
        }
    }

    // ---- 2. pipes

    private static void pipesByNumbers() {
        CHECK.sentence("Pipes, by numbers: what can flow at that moment flows");
        AqueductTanks x = Lands.with(tank(99, 5, 0), tank(50, 0, 0), tank(0, 0, 0));
        x.lay(0, 1, 20, 0);
        x.lay(0, 2, 20, 0);
        x.lay(1, 2, 20, 0);
        CHECK.same("all at once: pipe(1, 8)", x.pipe(1, 8), 5);
        CHECK.same("all at once: pipe(2, 8)", x.pipe(2, 8), 0);
        x.pass(1);
        CHECK.same("the first takes all: pipe(0, 5)", x.pipe(0, 5), 5);
        CHECK.same("nothing is left for the second: pipe(1, 5)", x.pipe(1, 5), 0);
        CHECK.same("what has just come goes on: pipe(2, 5)", x.pipe(2, 5), 5);
        CHECK.same("in the lowest: tank(2, 3)", x.tank(2, 3), 5);
        AqueductTanks y = Lands.with(tank(99, 5, 0), tank(50, 0, 0), tank(0, 0, 0));
        y.lay(1, 2, 20, 0);
        y.lay(0, 1, 20, 0);
        y.pass(1);
        CHECK.same("the lower one is first: pipe(0, 5)", y.pipe(0, 5), 0);
        CHECK.same("the lower one is first: tank(1, 3)", y.tank(1, 3), 5);
        // 40 less 5 that left and 5 that came is 30.
        int[][] dips = {{30, 4}, {31, 0}};
        for (int[] dip : dips) {
            AqueductTanks z = differing(40);
            z.lay(0, 1, 20, 0);
            z.lay(0, 1, 20, dip[0]);
            z.pass(1);
            CHECK.same("then a dip of " + dip[0] + ": pipe(1, 5)", z.pipe(1, 5), dip[1]);
        }
        AqueductTanks sprung = Lands.with(tank(99, 0, 0), tank(0, 0, 0));
        sprung.lay(0, 1, 20, 0);
        sprung.set(0, 6, 0);
        sprung.pass(1);
        CHECK.same("springs come ahead: pipe(0, 5)", sprung.pipe(0, 5), 6);
    }

    private static void leavesTheOneTank() {
        CHECK.sentence("it leaves the one tank");
        int[][] rows = {{200, 180}, {21, 1}, {20, 0}, {7, 0}};
        for (int[] row : rows) {
            AqueductTanks x = Lands.with(tank(99, row[0], 0), tank(0, 0, 0));
            x.lay(0, 1, 20, 0);
            x.steal(0, 9);
            x.pass(1);
            CHECK.same("of " + row[0] + ": tank(0, 3)", x.tank(0, 3), row[1]);
        }
    }

    private static void stolenTap() {
        CHECK.sentence("of this, as much as the stolen tap, but no more than there is, is lost");
        // What flows, the tap, what is lost.
        int[][] rows = {{5, 0, 0}, {5, 4, 4}, {5, 5, 5}, {5, 6, 5}, {5, 9, 5}, {9, 9, 9}, {1, 9, 1}, {0, 9, 0}, {20, 9, 9}};
        for (int[] row : rows) {
            AqueductTanks x = Lands.with(tank(99, row[0], 0), tank(0, 0, 0));
            x.lay(0, 1, 20, 0);
            x.steal(0, row[1]);
            x.pass(1);
            String told = row[0] + " flow, a tap of " + row[1];
            CHECK.same(told + ": pipe(0, 5)", x.pipe(0, 5), row[0]);
            CHECK.same(told + ": pipe(0, 6)", x.pipe(0, 6), row[2]);
            CHECK.same(told + ": pipe(0, 7)", x.pipe(0, 7), row[2]);
        }
    }

    private static void restComes() {
        CHECK.sentence("the rest comes into the other tank");
        // What flows, the tap, water of the other tank ahead and behind, what is spilled.
        int[][] rows = {{5, 0, 0, 5, 0}, {5, 4, 0, 1, 0}, {5, 5, 0, 0, 0}, {5, 9, 3, 3, 0}, {20, 9, 190, 200, 1},
            {20, 9, 189, 200, 0}, {20, 9, 200, 200, 11}, {5, 5, 200, 200, 0}};
        for (int[] row : rows) {
            AqueductTanks x = Lands.with(tank(99, row[0], 0), tank(0, row[2], 0));
            x.lay(0, 1, 20, 0);
            x.steal(0, row[1]);
            int spilled = x.tank(1, 7);
            x.pass(1);
            String told = row[0] + " flow, a tap of " + row[1] + ", a water of " + row[2];
            CHECK.same(told + ": tank(1, 3)", x.tank(1, 3), row[3]);
            CHECK.same(told + ": tank(1, 7)", x.tank(1, 7) - spilled, row[4]);
        }
    }

    private static void wanderingMud() {
        CHECK.sentence("as mud * what flows / (its water ahead of the flowing)");
        // Water, mud, the width; mud that is left and mud that has come.
        int[][] rows = {{200, 99, 20, 90, 9}, {20, 99, 20, 0, 99}, {20, 99, 19, 5, 94}, {1, 99, 20, 0, 99}, {0, 99, 20, 99, 0},
            {200, 9, 20, 9, 0}, {200, 10, 20, 9, 1}, {100, 0, 20, 0, 0}, {60, 15, 7, 14, 1}, {199, 99, 2, 99, 0},
            {198, 99, 2, 98, 1}};
        for (int[] row : rows) {
            AqueductTanks x = Lands.with(tank(99, row[0], row[1]), tank(0, 0, 0));
            x.lay(0, 1, row[2], 0);
            x.pass(1);
            String told = row[1] + " mud in " + row[0] + ", a width of " + row[2];
            CHECK.same(told + ": tank(0, 4)", x.tank(0, 4), row[3]);
            CHECK.same(told + ": tank(1, 4)", x.tank(1, 4), row[4]);
        }
        AqueductTanks lost = Lands.with(tank(99, 5, 40), tank(0, 0, 0));
        lost.lay(0, 1, 20, 0);
        lost.steal(0, 9);
        lost.pass(1);
        CHECK.same("all is lost at the tap: tank(0, 4)", lost.tank(0, 4), 0);
        CHECK.same("all is lost at the tap: tank(1, 4)", lost.tank(1, 4), 40);
        AqueductTanks still = Lands.with(tank(10, 50, 40), tank(10, 50, 0));
        still.lay(0, 1, 20, 0);
        still.pass(1);
        CHECK.same("nothing flows: tank(0, 4)", still.tank(0, 4), 40);
        CHECK.same("nothing flows: tank(1, 4)", still.tank(1, 4), 0);
    }

    private static void wanderingMudStays() {
        CHECK.sentence("(of which 99 stay there)");
        int[][] rows = {{89, 98}, {90, 99}, {91, 99}, {98, 99}, {99, 99}};
        for (int[] row : rows) {
            AqueductTanks x = Lands.with(tank(99, 200, 99), tank(0, 10, row[0]));
            x.lay(0, 1, 20, 0);
            x.pass(1);
            CHECK.same("9 come to " + row[0] + ": tank(1, 4)", x.tank(1, 4), row[1]);
            CHECK.same("9 come to " + row[0] + ": tank(0, 4)", x.tank(0, 4), 90);
        }
    }

    // ---- 3. crust

    private static void daysOfCrust() {
        CHECK.sentence("On days that can be divided by 4");
        AqueductTanks x = new AqueductTanks();
        x.build(99, 20, 0);
        x.build(0, 0, 20);
        x.lay(0, 1, 20, 0);
        x.lay(0, 1, 20, 0);
        int[] due = {1, 1, 1, 1, 2, 2, 2, 2, 3, 3, 3, 3, 4};
        for (int day = 0; day < due.length; day++) {
            x.pass(1);
            CHECK.same("day " + day + ": pipe(0, 4)", x.pipe(0, 4), due[day]);
        }
        AqueductTanks hundred = Lands.falling(1);
        int day = hundred.count(0);
        hundred.set(0, 20, 0);
        hundred.pass(100 - day % 100);
        hundred.scrape(0);
        hundred.pass(1);
        CHECK.same("day 100: pipe(0, 4)", hundred.pipe(0, 4), 1);
    }

    private static void flowedOnThisDay() {
        CHECK.sentence("through which something flowed on this day");
        AqueductTanks x = Lands.with(tank(99, 20, 0), tank(0, 0, 0));
        x.pass(3);
        x.lay(0, 1, 20, 0);
        x.lay(1, 0, 20, 0);
        x.pass(1);
        CHECK.same("on day 3 all flowed: pipe(0, 5)", x.pipe(0, 5), 20);
        x.pass(1);
        CHECK.same("on day 4 nothing flowed: pipe(0, 4)", x.pipe(0, 4), 0);
        x.set(0, 1, 0);
        x.steal(0, 9);
        x.pass(4);
        CHECK.same("on day 8 the 1 that flowed is lost: pipe(0, 6)", x.pipe(0, 6), 1);
        CHECK.same("on day 8 the 1 that flowed is lost: pipe(0, 4)", x.pipe(0, 4), 1);
        CHECK.same("never upwards: pipe(1, 4)", x.pipe(1, 4), 0);
    }

    private static void mostCrust() {
        CHECK.sentence("(at most 20)");
        AqueductTanks x = Lands.falling(1);
        x.set(0, 20, 0);
        x.set(1, 0, 20);
        for (int crust = 1; crust <= 20; crust++) {
            x.pass(4);
            CHECK.same("4 more days: pipe(0, 4)", x.pipe(0, 4), crust);
        }
        for (int time = 0; time < 5; time++) {
            x.pass(4);
            CHECK.same("4 days more than that: pipe(0, 4)", x.pipe(0, 4), 20);
        }
    }

    // ---- 4. fountains

    private static void fountainsInTheirTurn() {
        CHECK.sentence("Fountains, tank by tank: as much as the thirst");
        AqueductTanks x = Lands.with(tank(99, 5, 0), tank(0, 0, 0));
        x.lay(0, 1, 20, 0);
        x.set(0, 0, 5);
        x.set(1, 0, 5);
        x.pass(1);
        CHECK.same("pipes are first: tank(0, 5)", x.tank(0, 5), 0);
        CHECK.same("pipes are first: tank(1, 5)", x.tank(1, 5), 5);
        int[] thirsts = {0, 1, 19, 20};
        for (int thirst : thirsts) {
            AqueductTanks y = Lands.with(tank(0, 200, 49));
            int before = y.tank(0, 6);
            y.set(0, 0, thirst);
            CHECK.same("a thirst of " + thirst + ": pass(1)", y.pass(1), thirst);
            CHECK.same("a thirst of " + thirst + ": tank(0, 3)", y.tank(0, 3), 200 - thirst);
            CHECK.same("a thirst of " + thirst + ": tank(0, 5)", y.tank(0, 5), thirst);
            CHECK.same("a thirst of " + thirst + ": tank(0, 6)", y.tank(0, 6), before + thirst);
        }
    }

    private static void muddyFountains() {
        CHECK.sentence("with a mud of 50 or more half of it");
        // Mud, thirst, what is drunk.
        int[][] rows = {{0, 20, 20}, {49, 20, 20}, {50, 20, 10}, {51, 20, 10}, {99, 20, 10}, {50, 0, 0}, {50, 1, 0}, {50, 2, 1},
            {50, 3, 1}, {99, 13, 6}, {99, 19, 9}, {49, 1, 1}, {49, 13, 13}};
        for (int[] row : rows) {
            AqueductTanks x = Lands.with(tank(0, 100, row[0]));
            x.set(0, 0, row[1]);
            CHECK.same("a mud of " + row[0] + ", a thirst of " + row[1] + ": pass(1)", x.pass(1), row[2]);
        }
    }

    private static void muddyAtThatMoment() {
        CHECK.sentence("with a mud of 50 or more half of it (as springs and pipes have left it)");
        AqueductTanks x = Lands.with(tank(0, 100, 49));
        x.set(0, 4, 20);
        CHECK.same("the spring makes it 50: pass(1)", x.pass(1), 10);
        AqueductTanks y = Lands.with(tank(99, 100, 50), tank(0, 100, 49));
        y.lay(0, 1, 2, 0);
        y.set(0, 0, 20);
        y.set(1, 0, 20);
        y.pass(1);
        CHECK.same("the pipe makes it 49: tank(0, 5)", y.tank(0, 5), 20);
        CHECK.same("the pipe makes it 50: tank(1, 5)", y.tank(1, 5), 10);
    }

    private static void dryFountains() {
        CHECK.sentence("but no more than its water, is drunk");
        // Water, mud, thirst, what is drunk.
        int[][] rows = {{0, 0, 20, 0}, {1, 0, 20, 1}, {4, 0, 5, 4}, {5, 0, 5, 5}, {6, 0, 5, 5}, {19, 0, 20, 19}, {20, 0, 20, 20},
            {0, 99, 20, 0}, {9, 99, 20, 9}, {10, 99, 20, 10}, {11, 99, 20, 10}, {2, 99, 7, 2}, {3, 99, 7, 3}, {4, 99, 7, 3}};
        for (int[] row : rows) {
            AqueductTanks x = Lands.with(tank(0, row[0], row[1]));
            x.set(0, 0, row[2]);
            String told = "a water of " + row[0] + ", a mud of " + row[1] + ", a thirst of " + row[2];
            CHECK.same(told + ": pass(1)", x.pass(1), row[3]);
            CHECK.same(told + ": tank(0, 3)", x.tank(0, 3), row[0] - row[3]);
        }
    }

    // ---- 5. the day

    private static void dayIsGreater() {
        CHECK.sentence("The day is 1 greater.");
        AqueductTanks x = new AqueductTanks();
        for (int day = 1; day <= 9; day++) {
            x.pass(1);
            CHECK.same("pass(1), count(0)", x.count(0), day);
        }
        x.pass(100);
        CHECK.same("pass(100), count(0)", x.count(0), 109);
    }
}
