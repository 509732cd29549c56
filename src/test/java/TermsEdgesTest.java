/** The edges that 'The public face' and 'Terms' name ahead of the day: each sentence with a test of its own. */
public final class TermsEdgesTest {
    private static final Class<?> INDEX = IndexOutOfBoundsException.class;
    private static final Class<?> ARGUMENT = IllegalArgumentException.class;
    private static final Class<?> STATE = IllegalStateException.class;
    private static final Check CHECK = new Check();

    public static void main(String[] args) {
        CHECK.run(TermsEdgesTest::lastCall);
        CHECK.run(TermsEdgesTest::cutNumbers);
        CHECK.run(TermsEdgesTest::timeFromZero);
        CHECK.run(TermsEdgesTest::tenTanks);
        CHECK.run(TermsEdgesTest::heights);
        CHECK.run(TermsEdgesTest::springs);
        CHECK.run(TermsEdgesTest::thirsts);
        CHECK.run(TermsEdgesTest::waters);
        CHECK.run(TermsEdgesTest::muds);
        CHECK.run(TermsEdgesTest::heads);
        CHECK.run(TermsEdgesTest::spilledWater);
        CHECK.run(TermsEdgesTest::fourteenPipes);
        CHECK.run(TermsEdgesTest::anotherTank);
        CHECK.run(TermsEdgesTest::widths);
        CHECK.run(TermsEdgesTest::dips);
        CHECK.run(TermsEdgesTest::crusts);
        CHECK.run(TermsEdgesTest::taps);
        CHECK.run(TermsEdgesTest::refusedCallsOfTanks);
        CHECK.run(TermsEdgesTest::refusedCallsOfPipes);
        CHECK.run(TermsEdgesTest::refusedCallsOfDays);
        CHECK.run(TermsEdgesTest::refusedCallsShowNoTraceLater);
        CHECK.run(TermsEdgesTest::namedFirst);
        CHECK.end();
    }

    private static int[] tank(int height, int water, int mud) {
        return new int[] {height, water, mud};
    }

    private static void lastCall() {
        CHECK.sentence("An object is used for at most 512 calls after it has been made");
        // Mud is 50 on the tenth day and stays above it. Drunk: 9 whole days of 20, then 10 a day.
        int[] due = {51000, 1, 0, 190, 99, 180 + 50991 * 10, 0, 0, 1};
        // What came, less what is there and what was drunk.
        due[7] = 51000 * 20 - due[3] - due[5];
        for (int what = 0; what <= 8; what++) {
            AqueductTanks x = new AqueductTanks();
            x.build(0, 20, 20);
            for (int call = 2; call <= 511; call++) {
                x.pass(100);
            }
            CHECK.same("as call 512: count(" + what + ")", x.count(what), due[what]);
        }
    }

    private static void cutNumbers() {
        CHECK.sentence("All numbers are whole, and / is cut towards 0.");
        AqueductTanks x = Lands.with(tank(10, 119, 7), tank(10, 100, 0));
        x.lay(0, 1, 20, 0);
        CHECK.same("19 / 10 + 1: pipe(0, 8)", x.pipe(0, 8), 2);
        x.set(1, 19, 0);
        x.set(0, 0, 15);
        x.pass(1);
        // The spring has come ahead of the flowing: 119 and 119.
        CHECK.same("as high: pipe(0, 5)", x.pipe(0, 5), 0);
        CHECK.same("19 / 4: tank(1, 4)", x.tank(1, 4), 4);
        CHECK.same("15 drunk of 119: tank(0, 3)", x.tank(0, 3), 104);
        AqueductTanks y = Lands.with(tank(90, 29, 99), tank(0, 0, 0));
        y.lay(0, 1, 8, 0);
        y.set(0, 0, 19);
        y.pass(1);
        CHECK.same("99 * 8 / 29: tank(1, 4)", y.tank(1, 4), 27);
        CHECK.same("19 / 2: tank(0, 5)", y.tank(0, 5), 9);
        CHECK.same("flush(0)", y.flush(0), 72);
        CHECK.same("12 / 2: tank(0, 3)", y.tank(0, 3), 6);
        y.flush(0);
        y.flush(0);
        CHECK.same("3 / 2: tank(0, 3)", y.tank(0, 3), 1);
    }

    private static void timeFromZero() {
        CHECK.sentence("Time is told in days, from 0.");
        AqueductTanks x = new AqueductTanks();
        CHECK.same("count(0)", x.count(0), 0);
        x.pass(1);
        CHECK.same("pass(1), count(0)", x.count(0), 1);
    }

    // ---- tanks

    private static void tenTanks() {
        CHECK.sentence("There are at most 10, numbered from 0 in the order of their building");
        AqueductTanks x = new AqueductTanks();
        for (int number = 0; number < 10; number++) {
            CHECK.same("build(" + (50 + number) + ", ..)", x.build(50 + number, number, 20 - number), number);
        }
        for (int time = 0; time < 3; time++) {
            CHECK.refusedBy(x, "build, an eleventh", STATE, () -> x.build(0, 0, 0));
        }
        CHECK.same("count(1)", x.count(1), 10);
        for (int number = 0; number < 10; number++) {
            CHECK.same("tank(" + number + ", 0)", x.tank(number, 0), 50 + number);
            CHECK.same("tank(" + number + ", 1)", x.tank(number, 1), number);
            CHECK.same("tank(" + number + ", 2)", x.tank(number, 2), 20 - number);
        }
    }

    private static void heights() {
        CHECK.sentence("each has a height, 0 to 99");
        AqueductTanks x = new AqueductTanks();
        CHECK.same("build(0, 1, 2)", x.build(0, 1, 2), 0);
        CHECK.same("build(99, 1, 2)", x.build(99, 1, 2), 1);
        CHECK.same("tank(0, 0)", x.tank(0, 0), 0);
        CHECK.same("tank(1, 0)", x.tank(1, 0), 99);
        for (int height : Lands.outside(0, 99)) {
            CHECK.refusedBy(x, "build(" + height + ", 1, 2)", ARGUMENT, () -> x.build(height, 1, 2));
        }
    }

    private static void springs() {
        CHECK.sentence("a spring, 0 to 20");
        AqueductTanks x = new AqueductTanks();
        CHECK.same("build(5, 0, 1)", x.build(5, 0, 1), 0);
        CHECK.same("build(5, 20, 1)", x.build(5, 20, 1), 1);
        CHECK.same("tank(0, 1)", x.tank(0, 1), 0);
        CHECK.same("tank(1, 1)", x.tank(1, 1), 20);
        CHECK.same("set(0, 20, 1)", x.set(0, 20, 1), 1);
        CHECK.same("set(1, 0, 1)", x.set(1, 0, 1), 2001);
        CHECK.same("tank(0, 1)", x.tank(0, 1), 20);
        CHECK.same("tank(1, 1)", x.tank(1, 1), 0);
        for (int spring : Lands.outside(0, 20)) {
            CHECK.refusedBy(x, "build(5, " + spring + ", 1)", ARGUMENT, () -> x.build(5, spring, 1));
            CHECK.refusedBy(x, "set(0, " + spring + ", 1)", ARGUMENT, () -> x.set(0, spring, 1));
        }
    }

    private static void thirsts() {
        CHECK.sentence("a thirst, 0 to 20 (what its fountain asks in a day)");
        AqueductTanks x = Lands.with(tank(5, 100, 0), tank(5, 100, 0));
        x.set(0, 0, 0);
        x.set(1, 0, 20);
        CHECK.same("pass(1)", x.pass(1), 20);
        CHECK.same("a thirst of 0: tank(0, 5)", x.tank(0, 5), 0);
        CHECK.same("a thirst of 20: tank(1, 5)", x.tank(1, 5), 20);
        CHECK.same("build(5, 1, 0)", x.build(5, 1, 0), 2);
        CHECK.same("build(5, 1, 20)", x.build(5, 1, 20), 3);
        CHECK.same("tank(2, 2)", x.tank(2, 2), 0);
        CHECK.same("tank(3, 2)", x.tank(3, 2), 20);
        for (int thirst : Lands.outside(0, 20)) {
            CHECK.refusedBy(x, "build(5, 1, " + thirst + ")", ARGUMENT, () -> x.build(5, 1, thirst));
            CHECK.refusedBy(x, "set(0, 1, " + thirst + ")", ARGUMENT, () -> x.set(0, 1, thirst));
        }
    }

    private static void waters() {
        CHECK.sentence("water, 0 to 200 (0, at first)");
        AqueductTanks x = new AqueductTanks();
        x.build(99, 20, 0);
        x.build(0, 0, 20);
        CHECK.same("at first: tank(0, 3)", x.tank(0, 3), 0);
        x.pass(9);
        CHECK.same("9 days of 20: tank(0, 3)", x.tank(0, 3), 180);
        x.pass(1);
        CHECK.same("10 days of 20: tank(0, 3)", x.tank(0, 3), 200);
        x.pass(1);
        CHECK.same("11 days of 20: tank(0, 3)", x.tank(0, 3), 200);
        CHECK.same("a fountain without water: tank(1, 3)", x.tank(1, 3), 0);
        x.build(5, 0, 0);
        CHECK.same("built later, at first: tank(2, 3)", x.tank(2, 3), 0);
    }

    private static void muds() {
        CHECK.sentence("mud, 0 to 99 (0, at first)");
        AqueductTanks x = new AqueductTanks();
        x.build(0, 4, 0);
        CHECK.same("at first: tank(0, 4)", x.tank(0, 4), 0);
        x.pass(98);
        CHECK.same("98 days of 1: tank(0, 4)", x.tank(0, 4), 98);
        x.pass(1);
        CHECK.same("99 days of 1: tank(0, 4)", x.tank(0, 4), 99);
        x.pass(1);
        CHECK.same("100 days of 1: tank(0, 4)", x.tank(0, 4), 99);
        x.build(5, 20, 0);
        CHECK.same("built later, at first: tank(1, 4)", x.tank(1, 4), 0);
    }

    private static void heads() {
        CHECK.sentence("Its head is 10 * height + water.");
        // Heads of 200 and 200, of 200 and 199, of 200 and 201; then the highest and the lowest of all.
        int[][] pairs = {{0, 200, 20, 0, 0}, {0, 200, 19, 9, 1}, {0, 200, 20, 1, 0}, {99, 200, 0, 0, 20}, {0, 0, 99, 200, 0}};
        for (int[] pair : pairs) {
            AqueductTanks x = Lands.with(tank(pair[0], pair[1], 0), tank(pair[2], pair[3], 0));
            x.lay(0, 1, 20, 0);
            CHECK.same(pair[0] + ", " + pair[1] + " to " + pair[2] + ", " + pair[3] + ": pipe(0, 8)", x.pipe(0, 8), pair[4]);
        }
    }

    private static void spilledWater() {
        CHECK.sentence("Water that comes into a tank with 200 is spilled.");
        int[][] springs = {{200, 1, 200, 1}, {200, 0, 200, 0}, {199, 1, 200, 0}, {199, 2, 200, 1}, {181, 20, 200, 1},
            {180, 20, 200, 0}, {200, 20, 200, 20}};
        for (int[] row : springs) {
            AqueductTanks x = Lands.with(tank(0, row[0], 0));
            x.set(0, row[1], 0);
            x.pass(1);
            CHECK.same("a spring of " + row[1] + " to " + row[0] + ": tank(0, 3)", x.tank(0, 3), row[2]);
            CHECK.same("a spring of " + row[1] + " to " + row[0] + ": tank(0, 7)", x.tank(0, 7), row[3]);
        }
        int[][] pipes = {{200, 1, 200, 1}, {199, 1, 200, 0}, {199, 2, 200, 1}, {180, 20, 200, 0}, {181, 20, 200, 1}};
        for (int[] row : pipes) {
            AqueductTanks x = Lands.with(tank(99, 100, 0), tank(0, row[0], 0));
            x.lay(0, 1, row[1], 0);
            x.pass(1);
            CHECK.same("a pipe of " + row[1] + " to " + row[0] + ": tank(1, 3)", x.tank(1, 3), row[2]);
            CHECK.same("a pipe of " + row[1] + " to " + row[0] + ": tank(1, 7)", x.tank(1, 7), row[3]);
            CHECK.same("a pipe of " + row[1] + " to " + row[0] + ": tank(0, 7)", x.tank(0, 7), 0);
        }
        // A pipe and a fountain make room later on the day, which is too late for the spring.
        AqueductTanks y = Lands.with(tank(99, 200, 0), tank(0, 0, 0));
        y.lay(0, 1, 7, 0);
        y.set(0, 5, 6);
        y.pass(1);
        CHECK.same("room that is made later: tank(0, 7)", y.tank(0, 7), 5);
        CHECK.same("room that is made later: tank(0, 3)", y.tank(0, 3), 187);
    }

    // ---- pipes

    private static void fourteenPipes() {
        CHECK.sentence("There are at most 14, numbered likewise");
        AqueductTanks x = Lands.dry(10);
        for (int number = 0; number < 14; number++) {
            CHECK.same("lay, pipe " + number, x.lay(number % 10, (number + 3) % 10, number + 1, 60 - number), number);
        }
        for (int time = 0; time < 3; time++) {
            CHECK.refusedBy(x, "lay, a fifteenth", STATE, () -> x.lay(0, 1, 1, 0));
        }
        CHECK.same("count(2)", x.count(2), 14);
        for (int number = 0; number < 14; number++) {
            int[] due = {number % 10, (number + 3) % 10, number + 1, 60 - number, 0, 0, 0, 0, 0};
            for (int what = 0; what <= 8; what++) {
                CHECK.same("pipe(" + number + ", " + what + ")", x.pipe(number, what), due[what]);
            }
        }
    }

    private static void anotherTank() {
        CHECK.sentence("each leads from a tank to another one");
        AqueductTanks x = Lands.dry(10);
        for (int tank = 0; tank < 10; tank++) {
            int same = tank;
            CHECK.refusedBy(x, "lay(" + tank + ", " + tank + ", 1, 0)", ARGUMENT, () -> x.lay(same, same, 1, 0));
        }
        CHECK.same("lay(0, 9, 1, 0)", x.lay(0, 9, 1, 0), 0);
        CHECK.same("lay(0, 9, 1, 0) beside it", x.lay(0, 9, 1, 0), 1);
        CHECK.same("lay(9, 0, 1, 0), the way back", x.lay(9, 0, 1, 0), 2);
    }

    private static void widths() {
        CHECK.sentence("has a width, 1 to 20");
        AqueductTanks x = Lands.falling(0);
        CHECK.same("lay(0, 1, 1, 0)", x.lay(0, 1, 1, 0), 0);
        CHECK.same("lay(0, 1, 20, 0)", x.lay(0, 1, 20, 0), 1);
        CHECK.same("pipe(0, 2)", x.pipe(0, 2), 1);
        CHECK.same("pipe(1, 2)", x.pipe(1, 2), 20);
        CHECK.same("pipe(0, 8)", x.pipe(0, 8), 1);
        CHECK.same("pipe(1, 8)", x.pipe(1, 8), 20);
        for (int width : Lands.outside(1, 20)) {
            CHECK.refusedBy(x, "lay(0, 1, " + width + ", 0)", ARGUMENT, () -> x.lay(0, 1, width, 0));
        }
    }

    private static void dips() {
        CHECK.sentence("a dip, 0 to 60 (the depth of its valley)");
        AqueductTanks x = Lands.dry(2);
        CHECK.same("lay(0, 1, 1, 0)", x.lay(0, 1, 1, 0), 0);
        CHECK.same("lay(0, 1, 1, 60)", x.lay(0, 1, 1, 60), 1);
        CHECK.same("pipe(0, 3)", x.pipe(0, 3), 0);
        CHECK.same("pipe(1, 3)", x.pipe(1, 3), 60);
        for (int dip : Lands.outside(0, 60)) {
            CHECK.refusedBy(x, "lay(0, 1, 1, " + dip + ")", ARGUMENT, () -> x.lay(0, 1, 1, dip));
        }
    }

    private static void crusts() {
        CHECK.sentence("crust, 0 to 20 (0, at first)");
        AqueductTanks x = Lands.falling(1);
        CHECK.same("at first: pipe(0, 4)", x.pipe(0, 4), 0);
        x.set(0, 20, 0);
        x.set(1, 0, 20);
        // Days 0 and 4 and so on up to 76 are the twenty on which crust grows.
        x.pass(76);
        CHECK.same("76 days: pipe(0, 4)", x.pipe(0, 4), 19);
        x.pass(1);
        CHECK.same("77 days: pipe(0, 4)", x.pipe(0, 4), 20);
        x.pass(100);
        CHECK.same("177 days: pipe(0, 4)", x.pipe(0, 4), 20);
        x.lay(0, 1, 20, 0);
        CHECK.same("laid later, at first: pipe(1, 4)", x.pipe(1, 4), 0);
    }

    private static void taps() {
        CHECK.sentence("a stolen tap, 0 to 9 (0, at first)");
        AqueductTanks x = Lands.falling(2);
        CHECK.same("at first: steal(0, 9)", x.steal(0, 9), 0);
        CHECK.same("steal(0, 0)", x.steal(0, 0), 9);
        CHECK.same("steal(0, 9) again", x.steal(0, 9), 0);
        x.pass(1);
        CHECK.same("a tap of 9: pipe(0, 6)", x.pipe(0, 6), 9);
        CHECK.same("no tap at first: pipe(1, 6)", x.pipe(1, 6), 0);
        for (int tap : Lands.outside(0, 9)) {
            CHECK.refusedBy(x, "steal(0, " + tap + ")", ARGUMENT, () -> x.steal(0, tap));
        }
    }

    // ---- exceptions

    /** A land in which everything has a number of its own: full of tanks and pipes, some days old, with crust, mud and taps. */
    private static AqueductTanks busyLand() {
        AqueductTanks x = new AqueductTanks();
        for (int tank = 0; tank < 10; tank++) {
            x.build(90 - 9 * tank, 11 + tank, 2 * tank);
        }
        for (int pipe = 0; pipe < 14; pipe++) {
            x.lay(pipe % 9, pipe % 9 + 1, 7 + pipe, 4 * pipe);
            x.steal(pipe, pipe % 10);
        }
        x.pass(26);
        return x;
    }

    private static void refusedCallsOfTanks() {
        CHECK.sentence("A method that throws an exception changes nothing. (build, set, flush, tank, reach)");
        AqueductTanks x = busyLand();
        CHECK.refusedBy(x, "build(9, 9, 9)", STATE, () -> x.build(9, 9, 9));
        CHECK.refusedBy(x, "build(100, 9, 9)", ARGUMENT, () -> x.build(100, 9, 9));
        CHECK.refusedBy(x, "set(0, 3, 21)", ARGUMENT, () -> x.set(0, 3, 21));
        CHECK.refusedBy(x, "set(0, 21, 3)", ARGUMENT, () -> x.set(0, 21, 3));
        CHECK.refusedBy(x, "set(10, 3, 3)", INDEX, () -> x.set(10, 3, 3));
        CHECK.refusedBy(x, "flush(10)", INDEX, () -> x.flush(10));
        CHECK.refusedBy(x, "flush(-1)", INDEX, () -> x.flush(-1));
        CHECK.refusedBy(x, "tank(9, 8)", INDEX, () -> x.tank(9, 8));
        CHECK.refusedBy(x, "reach(10)", INDEX, () -> x.reach(10));
    }

    private static void refusedCallsOfPipes() {
        CHECK.sentence("A method that throws an exception changes nothing. (lay, scrape, steal, pipe)");
        AqueductTanks x = busyLand();
        CHECK.refusedBy(x, "lay(0, 1, 9, 9)", STATE, () -> x.lay(0, 1, 9, 9));
        CHECK.refusedBy(x, "lay(0, 0, 9, 9)", ARGUMENT, () -> x.lay(0, 0, 9, 9));
        CHECK.refusedBy(x, "lay(0, 10, 9, 9)", INDEX, () -> x.lay(0, 10, 9, 9));
        CHECK.refusedBy(x, "scrape(14)", INDEX, () -> x.scrape(14));
        CHECK.refusedBy(x, "scrape(-1)", INDEX, () -> x.scrape(-1));
        CHECK.refusedBy(x, "steal(14, 5)", INDEX, () -> x.steal(14, 5));
        CHECK.refusedBy(x, "steal(0, 10)", ARGUMENT, () -> x.steal(0, 10));
        CHECK.refusedBy(x, "pipe(13, 9)", INDEX, () -> x.pipe(13, 9));
    }

    private static void refusedCallsOfDays() {
        CHECK.sentence("A method that throws an exception changes nothing. (count, pass, foresee, advise, sated)");
        AqueductTanks x = busyLand();
        CHECK.refusedBy(x, "count(9)", INDEX, () -> x.count(9));
        CHECK.refusedBy(x, "pass(0)", ARGUMENT, () -> x.pass(0));
        CHECK.refusedBy(x, "pass(101)", ARGUMENT, () -> x.pass(101));
        CHECK.refusedBy(x, "foresee(101, 0)", ARGUMENT, () -> x.foresee(101, 0));
        CHECK.refusedBy(x, "foresee(100, 4)", INDEX, () -> x.foresee(100, 4));
        CHECK.refusedBy(x, "advise(61)", ARGUMENT, () -> x.advise(61));
        CHECK.refusedBy(x, "sated(10)", INDEX, () -> x.sated(10));
    }

    private static void refusedCallsShowNoTraceLater() {
        CHECK.sentence("A method that throws an exception changes nothing. (nor what comes later)");
        AqueductTanks tried = Lands.dry(2);
        AqueductTanks spared = Lands.dry(2);
        for (int time = 0; time < 20; time++) {
            CHECK.refused("build(0, 20, 21)", ARGUMENT, () -> tried.build(0, 20, 21));
            CHECK.refused("lay(0, 1, 20, 61)", ARGUMENT, () -> tried.lay(0, 1, 20, 61));
            CHECK.refused("set(0, 20, 21)", ARGUMENT, () -> tried.set(0, 20, 21));
        }
        AqueductTanks[] both = {tried, spared};
        for (AqueductTanks x : both) {
            CHECK.same("build(1, 5, 5)", x.build(1, 5, 5), 2);
            CHECK.same("lay(2, 0, 1, 0)", x.lay(2, 0, 1, 0), 0);
            CHECK.same("set(0, 10, 4)", x.set(0, 10, 4), 0);
            CHECK.same("pass(9)", x.pass(9), 36 + 45);
        }
        CHECK.same("digest()", tried.digest(), spared.digest());
    }

    private static void namedFirst() {
        CHECK.sentence("If several exceptions apply, the one that is named first is thrown.");
        AqueductTanks x = Lands.dry(10);
        CHECK.refusedBy(x, "build, too high and too many", ARGUMENT, () -> x.build(100, 0, 0));
        CHECK.refusedBy(x, "build, a spring too strong and too many", ARGUMENT, () -> x.build(0, 21, 0));
        CHECK.refusedBy(x, "build, too thirsty and too many", ARGUMENT, () -> x.build(0, 0, 21));
        CHECK.refusedBy(x, "lay, no tank and too narrow", INDEX, () -> x.lay(10, 0, 0, 0));
        CHECK.refusedBy(x, "lay, no tank and too deep", INDEX, () -> x.lay(0, 10, 1, 61));
        CHECK.refusedBy(x, "lay, both the same and no tank", INDEX, () -> x.lay(10, 10, 1, 0));
        CHECK.refusedBy(x, "set, no tank and too strong", INDEX, () -> x.set(10, 21, 0));
        CHECK.refusedBy(x, "set, no tank and too thirsty", INDEX, () -> x.set(-1, 0, 21));
        CHECK.refusedBy(x, "steal, no pipe and too much", INDEX, () -> x.steal(0, 10));
        CHECK.refusedBy(x, "foresee, no days and no such what", ARGUMENT, () -> x.foresee(0, 4));
        CHECK.refusedBy(x, "foresee, too many days and no such what", ARGUMENT, () -> x.foresee(101, -1));
        for (int pipe = 0; pipe < 14; pipe++) {
            x.lay(0, 1, 1, 0);
        }
        CHECK.refusedBy(x, "lay, no tank and too many", INDEX, () -> x.lay(0, 10, 1, 0));
        CHECK.refusedBy(x, "lay, both the same and too many", ARGUMENT, () -> x.lay(3, 3, 1, 0));
        CHECK.refusedBy(x, "lay, too narrow and too many", ARGUMENT, () -> x.lay(0, 1, 0, 0));
        CHECK.refusedBy(x, "lay, too deep and too many", ARGUMENT, () -> x.lay(0, 1, 1, 61));
    }
}
