/** The edges that the promises 8 to 12 name: each sentence with a test of its own. */
public final class WhatIsThereEdgesTest {
    private static final Class<?> INDEX = IndexOutOfBoundsException.class;
    private static final Check CHECK = new Check();

    public static void main(String[] args) {
        CHECK.run(WhatIsThereEdgesTest::tankLatestDay);
        CHECK.run(WhatIsThereEdgesTest::tankInAll);
        CHECK.run(WhatIsThereEdgesTest::tankNoTank);
        CHECK.run(WhatIsThereEdgesTest::pipeLatestDay);
        CHECK.run(WhatIsThereEdgesTest::pipeInAll);
        CHECK.run(WhatIsThereEdgesTest::pipeCanFlowNow);
        CHECK.run(WhatIsThereEdgesTest::pipeNoPipe);
        CHECK.run(WhatIsThereEdgesTest::countSums);
        CHECK.run(WhatIsThereEdgesTest::countThirsty);
        CHECK.run(WhatIsThereEdgesTest::countNoWhat);
        CHECK.run(WhatIsThereEdgesTest::reachWhatever);
        CHECK.run(WhatIsThereEdgesTest::reachItself);
        CHECK.run(WhatIsThereEdgesTest::reachBits);
        CHECK.run(WhatIsThereEdgesTest::reachNoTank);
        CHECK.run(WhatIsThereEdgesTest::suspectSmallest);
        CHECK.run(WhatIsThereEdgesTest::suspectNone);
        CHECK.end();
    }

    private static int[] tank(int height, int water, int mud) {
        return new int[] {height, water, mud};
    }

    // ---- promise 8

    private static void tankLatestDay() {
        CHECK.sentence("5 what was drunk on the latest day");
        AqueductTanks x = new AqueductTanks();
        x.build(5, 9, 7);
        CHECK.same("ahead of the first day: tank(0, 5)", x.tank(0, 5), 0);
        x.pass(3);
        CHECK.same("of three days: tank(0, 5)", x.tank(0, 5), 7);
        x.build(5, 9, 7);
        CHECK.same("built behind it: tank(1, 5)", x.tank(1, 5), 0);
        x.set(0, 0, 0);
        x.flush(0);
        CHECK.same("set and flushed behind it: tank(0, 5)", x.tank(0, 5), 7);
        x.foresee(5, 0);
        x.sated(0);
        CHECK.same("only foreseen: tank(0, 5)", x.tank(0, 5), 7);
        x.pass(1);
        CHECK.same("nothing on this day: tank(0, 5)", x.tank(0, 5), 0);
    }

    private static void tankInAll() {
        CHECK.sentence("6 what was drunk in all, 7 what was spilled in all");
        AqueductTanks x = Lands.with(tank(0, 200, 0));
        CHECK.same("nothing: tank(0, 6)", x.tank(0, 6), 0);
        CHECK.same("nothing: tank(0, 7)", x.tank(0, 7), 0);
        x.set(0, 3, 2);
        x.pass(1);
        CHECK.same("one day: tank(0, 6)", x.tank(0, 6), 2);
        CHECK.same("one day: tank(0, 7)", x.tank(0, 7), 3);
        // From the second day on there is room for 2 of the 3.
        x.pass(10);
        CHECK.same("eleven days: tank(0, 6)", x.tank(0, 6), 22);
        CHECK.same("eleven days: tank(0, 7)", x.tank(0, 7), 13);
        x.set(0, 0, 0);
        x.pass(10);
        CHECK.same("ten days of nothing: tank(0, 6)", x.tank(0, 6), 22);
        CHECK.same("ten days of nothing: tank(0, 7)", x.tank(0, 7), 13);
    }

    private static void tankNoTank() {
        CHECK.sentence("Throws IndexOutOfBoundsException if there is no such tank, or what is not 0 to 7");
        AqueductTanks x = new AqueductTanks();
        x.build(4, 5, 6);
        x.build(7, 8, 9);
        for (int wrong : Lands.outside(0, 1)) {
            CHECK.refusedBy(x, "tank(" + wrong + ", 0)", INDEX, () -> x.tank(wrong, 0));
        }
        for (int wrong : Lands.outside(0, 7)) {
            CHECK.refusedBy(x, "tank(1, " + wrong + ")", INDEX, () -> x.tank(1, wrong));
        }
        CHECK.refusedBy(x, "tank(2, 8)", INDEX, () -> x.tank(2, 8));
        CHECK.same("the first: tank(0, 0)", x.tank(0, 0), 4);
        CHECK.same("the last: tank(1, 7)", x.tank(1, 7), 0);
        AqueductTanks full = Lands.dry(10);
        CHECK.refusedBy(full, "of ten: tank(10, 0)", INDEX, () -> full.tank(10, 0));
    }

    // ---- promise 9

    private static void pipeLatestDay() {
        CHECK.sentence("5 what flowed on the latest day, 6 what of this was lost");
        AqueductTanks x = Lands.with(tank(99, 25, 0), tank(0, 0, 0));
        x.lay(0, 1, 20, 0);
        x.steal(0, 4);
        CHECK.same("ahead of its first day: pipe(0, 5)", x.pipe(0, 5), 0);
        CHECK.same("ahead of its first day: pipe(0, 6)", x.pipe(0, 6), 0);
        x.pass(1);
        CHECK.same("a day: pipe(0, 5)", x.pipe(0, 5), 20);
        CHECK.same("a day: pipe(0, 6)", x.pipe(0, 6), 4);
        x.lay(0, 1, 20, 0);
        CHECK.same("laid behind it: pipe(1, 5)", x.pipe(1, 5), 0);
        x.scrape(0);
        x.foresee(9, 1);
        x.advise(9);
        CHECK.same("scraped and foreseen: pipe(0, 5)", x.pipe(0, 5), 20);
        CHECK.same("scraped and foreseen: pipe(0, 6)", x.pipe(0, 6), 4);
        x.pass(1);
        CHECK.same("the last water: pipe(0, 5)", x.pipe(0, 5), 5);
        CHECK.same("the last water: pipe(0, 6)", x.pipe(0, 6), 4);
        x.pass(1);
        CHECK.same("nothing on this day: pipe(0, 5)", x.pipe(0, 5), 0);
        CHECK.same("nothing on this day: pipe(0, 6)", x.pipe(0, 6), 0);
    }

    private static void pipeInAll() {
        CHECK.sentence("7 what was lost in all");
        AqueductTanks x = Lands.with(tank(99, 25, 0), tank(0, 0, 0));
        x.lay(0, 1, 10, 0);
        CHECK.same("nothing: pipe(0, 7)", x.pipe(0, 7), 0);
        x.steal(0, 9);
        // 10, 9 and the last 6 flow.
        x.pass(2);
        CHECK.same("two days: pipe(0, 7)", x.pipe(0, 7), 18);
        x.pass(1);
        CHECK.same("three days: pipe(0, 7)", x.pipe(0, 7), 24);
        x.steal(0, 0);
        x.scrape(0);
        x.set(0, 5, 0);
        x.pass(5);
        CHECK.same("the tap is closed: pipe(0, 5)", x.pipe(0, 5), 5);
        CHECK.same("the tap is closed: pipe(0, 7)", x.pipe(0, 7), 24);
    }

    private static void pipeCanFlowNow() {
        CHECK.sentence("8 what can flow now");
        AqueductTanks x = Lands.with(tank(99, 15, 0), tank(0, 0, 0));
        x.lay(0, 1, 9, 0);
        x.steal(0, 9);
        CHECK.same("now: pipe(0, 8)", x.pipe(0, 8), 9);
        CHECK.same("now, again: pipe(0, 8)", x.pipe(0, 8), 9);
        x.flush(0);
        CHECK.same("flushed: pipe(0, 8)", x.pipe(0, 8), 7);
        x.set(0, 20, 0);
        CHECK.same("the spring has not come yet: pipe(0, 8)", x.pipe(0, 8), 7);
        x.pass(1);
        CHECK.same("crusted: pipe(0, 8)", x.pipe(0, 8), 8);
        x.scrape(0);
        CHECK.same("scraped: pipe(0, 8)", x.pipe(0, 8), 9);
        CHECK.same("on the latest day: pipe(0, 5)", x.pipe(0, 5), 9);
    }

    private static void pipeNoPipe() {
        CHECK.sentence("Throws IndexOutOfBoundsException if there is no such pipe, or what is not 0 to 8");
        AqueductTanks x = Lands.falling(2);
        for (int wrong : Lands.outside(0, 1)) {
            CHECK.refusedBy(x, "pipe(" + wrong + ", 0)", INDEX, () -> x.pipe(wrong, 0));
        }
        for (int wrong : Lands.outside(0, 8)) {
            CHECK.refusedBy(x, "pipe(1, " + wrong + ")", INDEX, () -> x.pipe(1, wrong));
        }
        CHECK.refusedBy(x, "pipe(2, 9)", INDEX, () -> x.pipe(2, 9));
        CHECK.same("the first: pipe(0, 0)", x.pipe(0, 0), 0);
        CHECK.same("the last: pipe(1, 8)", x.pipe(1, 8), 20);
        AqueductTanks full = Lands.falling(14);
        CHECK.same("of fourteen: pipe(13, 8)", full.pipe(13, 8), 20);
        CHECK.refusedBy(full, "of fourteen: pipe(14, 0)", INDEX, () -> full.pipe(14, 0));
    }

    // ---- promise 10

    private static void countSums() {
        CHECK.sentence("0 the day, 1 tanks, 2 pipes, 3 all water, 4 all mud, 5 what was drunk in all, 6 what was lost in all,"
            + " 7 what was spilled in all");
        // Ten full and muddy tanks, the first one above the others; what they hold is the most that there can be.
        int[][] tanks = new int[10][];
        for (int tank = 0; tank < 10; tank++) {
            tanks[tank] = tank(tank == 0 ? 99 : 0, 200, 99);
        }
        AqueductTanks x = Lands.with(tanks);
        CHECK.same("full: count(1)", x.count(1), 10);
        CHECK.same("full: count(2)", x.count(2), 0);
        CHECK.same("full: count(3)", x.count(3), 2000);
        CHECK.same("full: count(4)", x.count(4), 990);
        for (int pipe = 0; pipe < 14; pipe++) {
            x.lay(0, 1 + pipe % 9, 2, 0);
            x.steal(pipe, 1);
        }
        int day = x.count(0);
        int drunk = x.count(5);
        int spilled = x.count(7);
        x.set(9, 0, 20);
        x.pass(1);
        CHECK.same("a day: count(0)", x.count(0), day + 1);
        CHECK.same("a day: count(2)", x.count(2), 14);
        CHECK.same("10 drunk, 14 lost, 14 spilled: count(3)", x.count(3), 2000 - 10 - 14 - 14);
        CHECK.same("10 drunk: count(5)", x.count(5), drunk + 10);
        CHECK.same("14 lost: count(6)", x.count(6), 14);
        CHECK.same("14 spilled: count(7)", x.count(7), spilled + 14);
        // 2 of 200 take none of the 99 mud with them, 2 of 198 and of less take 1, and the other tanks hold no more.
        CHECK.same("13 mud less: count(4)", x.count(4), 990 - 13);
    }

    private static void countThirsty() {
        CHECK.sentence("8 tanks of which less was drunk on the latest day (0 ahead of the first one) than their thirst is now");
        AqueductTanks x = new AqueductTanks();
        x.build(0, 20, 1);
        x.build(0, 0, 0);
        x.build(0, 20, 20);
        CHECK.same("ahead of the first day: count(8)", x.count(8), 2);
        x.set(0, 20, 0);
        CHECK.same("ahead of the first day, less thirst: count(8)", x.count(8), 1);
        x.set(0, 20, 5);
        x.pass(1);
        CHECK.same("all of it was drunk: count(8)", x.count(8), 0);
        x.set(0, 20, 6);
        CHECK.same("1 more than was drunk: count(8)", x.count(8), 1);
        x.set(0, 20, 5);
        CHECK.same("as much as was drunk: count(8)", x.count(8), 0);
        x.set(0, 20, 4);
        CHECK.same("1 less than was drunk: count(8)", x.count(8), 0);
        x.build(0, 20, 1);
        CHECK.same("built behind the latest day: count(8)", x.count(8), 1);
        x.set(3, 20, 0);
        x.set(2, 0, 20);
        x.pass(1);
        CHECK.same("nothing there: count(8)", x.count(8), 1);
    }

    private static void countNoWhat() {
        CHECK.sentence("Throws IndexOutOfBoundsException if what is not 0 to 8");
        AqueductTanks x = Lands.falling(1);
        for (int wrong : Lands.outside(0, 8)) {
            CHECK.refusedBy(x, "count(" + wrong + ")", INDEX, () -> x.count(wrong));
        }
        CHECK.same("the first: count(0)", x.count(0) % 4, 0);
        CHECK.same("the last: count(8)", x.count(8), 0);
    }

    // ---- promise 11

    private static void reachWhatever() {
        CHECK.sentence("all tanks to which pipes lead from it, and from these, and so on, whatever can flow");
        AqueductTanks x = new AqueductTanks();
        for (int tank = 0; tank < 10; tank++) {
            x.build(11 * tank, 0, 0);
        }
        // Laid against their order, so that a single look along the pipes is not enough.
        for (int tank = 9; tank >= 1; tank--) {
            x.lay(tank - 1, tank, 1, 60);
        }
        int[] due = {1022, 1020, 1016, 1008, 992, 960, 896, 768, 512, 0};
        for (int tank = 0; tank < 10; tank++) {
            CHECK.same("upwards and dry: reach(" + tank + ")", x.reach(tank), due[tank]);
        }
        AqueductTanks closed = Lands.falling(0);
        closed.lay(0, 1, 1, 0);
        closed.pass(1);
        CHECK.same("closed by crust: pipe(0, 8)", closed.pipe(0, 8), 0);
        CHECK.same("closed by crust: reach(0)", closed.reach(0), 2);
    }

    private static void reachItself() {
        CHECK.sentence("with itself, if pipes lead back to it");
        AqueductTanks x = Lands.dry(4);
        x.lay(0, 1, 1, 0);
        x.lay(1, 2, 1, 0);
        CHECK.same("no way back: reach(0)", x.reach(0), 6);
        x.lay(2, 1, 1, 0);
        CHECK.same("a ring that it is not in: reach(0)", x.reach(0), 6);
        CHECK.same("a ring of two: reach(1)", x.reach(1), 6);
        x.lay(2, 0, 1, 0);
        CHECK.same("a ring of three: reach(0)", x.reach(0), 7);
        CHECK.same("a ring of three: reach(2)", x.reach(2), 7);
        x.lay(3, 0, 1, 0);
        CHECK.same("ahead of a ring: reach(3)", x.reach(3), 7);
    }

    private static void reachBits() {
        CHECK.sentence("as a set: the bit with the number of each one is set");
        AqueductTanks x = Lands.dry(10);
        for (int tank = 0; tank < 10; tank++) {
            CHECK.same("none: reach(" + tank + ")", x.reach(tank), 0);
        }
        x.lay(9, 0, 1, 0);
        CHECK.same("the first bit: reach(9)", x.reach(9), 1);
        x.lay(4, 9, 1, 0);
        CHECK.same("the first and the last bit: reach(4)", x.reach(4), 513);
        x.lay(4, 9, 1, 0);
        CHECK.same("two pipes to one tank: reach(4)", x.reach(4), 513);
        for (int tank = 0; tank < 9; tank++) {
            x.lay(tank, tank + 1, 1, 0);
        }
        CHECK.same("all bits: reach(5)", x.reach(5), 1023);
    }

    private static void reachNoTank() {
        CHECK.sentence("Throws IndexOutOfBoundsException if there is no such tank (reach)");
        AqueductTanks x = Lands.dry(3);
        for (int wrong : Lands.outside(0, 2)) {
            CHECK.refusedBy(x, "reach(" + wrong + ")", INDEX, () -> x.reach(wrong));
        }
        CHECK.same("the last: reach(2)", x.reach(2), 0);
        AqueductTanks full = Lands.dry(10);
        CHECK.refusedBy(full, "of ten: reach(10)", INDEX, () -> full.reach(10));
    }

    // ---- promise 12

    private static void suspectSmallest() {
        CHECK.sentence("the pipe in which the most was lost on the latest day, of several the one with the smallest number");
        AqueductTanks x = Lands.falling(0);
        for (int pipe = 0; pipe < 4; pipe++) {
            x.lay(0, 1, 12, 0);
        }
        x.steal(3, 9);
        x.pass(1);
        CHECK.same("the last alone: suspect()", x.suspect(), 3);
        x.steal(1, 8);
        x.steal(2, 8);
        x.pass(1);
        CHECK.same("the most of three: suspect()", x.suspect(), 3);
        x.steal(3, 8);
        CHECK.same("on the latest day: suspect()", x.suspect(), 3);
        x.pass(1);
        CHECK.same("of several: suspect()", x.suspect(), 1);
        AqueductTanks y = Lands.with(tank(99, 3, 0), tank(0, 0, 0));
        y.lay(0, 1, 1, 0);
        y.lay(0, 1, 20, 0);
        y.steal(0, 9);
        y.steal(1, 2);
        y.pass(1);
        CHECK.same("1 lost at a tap of 9, 2 at one of 2: suspect()", y.suspect(), 1);
        AqueductTanks full = Lands.falling(0);
        for (int pipe = 0; pipe < 14; pipe++) {
            full.lay(0, 1, 2, 0);
        }
        full.steal(13, 1);
        full.pass(1);
        CHECK.same("the last of fourteen: suspect()", full.suspect(), 13);
    }

    private static void suspectNone() {
        CHECK.sentence("-1 if nothing was.");
        CHECK.same("no pipes: suspect()", Lands.dry(2).suspect(), -1);
        AqueductTanks x = Lands.with(tank(99, 1, 0), tank(0, 0, 0));
        x.lay(0, 1, 20, 0);
        x.steal(0, 1);
        CHECK.same("ahead of a day: suspect()", x.suspect(), -1);
        x.pass(1);
        CHECK.same("1 was: suspect()", x.suspect(), 0);
        x.pass(1);
        CHECK.same("1 was, on the day before: suspect()", x.suspect(), -1);
        AqueductTanks y = Lands.falling(2);
        y.pass(1);
        CHECK.same("no taps: suspect()", y.suspect(), -1);
    }
}
