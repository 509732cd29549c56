import java.math.BigInteger;

/** The edges that the promises 13 to 18 name: each sentence with a test of its own. */
public final class WhatWouldBeEdgesTest {
    private static final Class<?> INDEX = IndexOutOfBoundsException.class;
    private static final Class<?> ARGUMENT = IllegalArgumentException.class;
    private static final Check CHECK = new Check();

    public static void main(String[] args) {
        CHECK.run(WhatWouldBeEdgesTest::passDrunk);
        CHECK.run(WhatWouldBeEdgesTest::passArguments);
        CHECK.run(WhatWouldBeEdgesTest::foreseeDays);
        CHECK.run(WhatWouldBeEdgesTest::foreseeEmpty);
        CHECK.run(WhatWouldBeEdgesTest::foreseeFull);
        CHECK.run(WhatWouldBeEdgesTest::foreseeNothingChanged);
        CHECK.run(WhatWouldBeEdgesTest::foreseeArguments);
        CHECK.run(WhatWouldBeEdgesTest::foreseeNoWhat);
        CHECK.run(WhatWouldBeEdgesTest::adviseSmallest);
        CHECK.run(WhatWouldBeEdgesTest::adviseNone);
        CHECK.run(WhatWouldBeEdgesTest::adviseDays);
        CHECK.run(WhatWouldBeEdgesTest::adviseNothingChanged);
        CHECK.run(WhatWouldBeEdgesTest::adviseArguments);
        CHECK.run(WhatWouldBeEdgesTest::satedAtMost);
        CHECK.run(WhatWouldBeEdgesTest::satedAllOfIt);
        CHECK.run(WhatWouldBeEdgesTest::satedNever);
        CHECK.run(WhatWouldBeEdgesTest::satedNothingChanged);
        CHECK.run(WhatWouldBeEdgesTest::satedNoTank);
        CHECK.run(WhatWouldBeEdgesTest::meanDivided);
        CHECK.run(WhatWouldBeEdgesTest::meanNone);
        CHECK.run(WhatWouldBeEdgesTest::digestStart);
        CHECK.run(WhatWouldBeEdgesTest::digestWraps);
        CHECK.run(WhatWouldBeEdgesTest::digestOrder);
        CHECK.end();
    }

    private static int[] tank(int height, int water, int mud) {
        return new int[] {height, water, mud};
    }

    // ---- promise 13

    private static void passDrunk() {
        CHECK.sentence("Returns how much is drunk in them.");
        AqueductTanks x = new AqueductTanks();
        x.build(0, 3, 3);
        x.build(0, 2, 3);
        CHECK.same("pass(1)", x.pass(1), 5);
        CHECK.same("what was drunk ahead is not in it: pass(1)", x.pass(1), 5);
        CHECK.same("pass(100)", x.pass(100), 500);
        x.set(0, 0, 3);
        x.set(1, 2, 0);
        CHECK.same("nothing: pass(100)", x.pass(100), 0);
        CHECK.same("in all: count(5)", x.count(5), 510);
    }

    private static void passArguments() {
        CHECK.sentence("Throws IllegalArgumentException if days is not 1 to 100 (pass)");
        AqueductTanks x = Lands.falling(1);
        for (int wrong : Lands.outside(1, 100)) {
            CHECK.refusedBy(x, "pass(" + wrong + ")", ARGUMENT, () -> x.pass(wrong));
        }
        int day = x.count(0);
        x.pass(1);
        CHECK.same("the least: count(0)", x.count(0), day + 1);
        x.pass(100);
        CHECK.same("the most: count(0)", x.count(0), day + 101);
    }

    // ---- promise 14

    /** A land in which much goes on: springs, thirst, crust, mud, and a tap. */
    private static AqueductTanks tapped() {
        AqueductTanks x = Lands.falling(2);
        x.steal(1, 7);
        x.set(0, 9, 1);
        x.set(1, 0, 13);
        x.pass(6);
        return x;
    }

    private static void foreseeDays() {
        CHECK.sentence("how many, 1 to 100");
        int[] numbers = {1, 2, 3, 4, 99, 100};
        for (int days : numbers) {
            AqueductTanks x = tapped();
            int drunkAhead = x.count(5);
            int lostAhead = x.count(6);
            int[] told = {x.foresee(days, 0), x.foresee(days, 1), x.foresee(days, 2), x.foresee(days, 3)};
            for (int day = 0; day < days; day++) {
                x.pass(1);
            }
            CHECK.same("foresee(" + days + ", 0)", told[0], x.count(5) - drunkAhead);
            CHECK.same("foresee(" + days + ", 1)", told[1], x.count(6) - lostAhead);
            CHECK.same("foresee(" + days + ", 2)", told[2], x.count(3));
            CHECK.same("foresee(" + days + ", 3)", told[3], x.pipe(0, 4) + x.pipe(1, 4));
        }
        AqueductTanks y = Lands.with(tank(99, 10, 0), tank(0, 0, 0));
        y.lay(0, 1, 6, 0);
        y.steal(0, 4);
        y.set(1, 0, 1);
        CHECK.same("2 come, 1 is drunk: foresee(1, 0)", y.foresee(1, 0), 1);
        CHECK.same("4 of 6: foresee(1, 1)", y.foresee(1, 1), 4);
        CHECK.same("4 and 1: foresee(1, 2)", y.foresee(1, 2), 5);
        CHECK.same("on a day that can be divided by 4: foresee(1, 3)", y.foresee(1, 3), 1);
        CHECK.same("all of the second day is lost: foresee(100, 0)", y.foresee(100, 0), 2);
        CHECK.same("4 and 4: foresee(100, 1)", y.foresee(100, 1), 8);
        CHECK.same("nothing is left: foresee(100, 2)", y.foresee(100, 2), 0);
        CHECK.same("nothing flows later: foresee(100, 3)", y.foresee(100, 3), 1);
    }

    private static void foreseeEmpty() {
        CHECK.sentence("Returns this, if nothing is done (of a land without tanks, and of one without pipes)");
        for (int what = 0; what <= 3; what++) {
            CHECK.same("no tanks: foresee(1, " + what + ")", new AqueductTanks().foresee(1, what), 0);
            CHECK.same("no tanks: foresee(100, " + what + ")", new AqueductTanks().foresee(100, what), 0);
        }
        AqueductTanks x = new AqueductTanks();
        x.build(0, 3, 1);
        int[] due = {100, 0, 199, 0};
        for (int what = 0; what <= 3; what++) {
            CHECK.same("no pipes: foresee(100, " + what + ")", x.foresee(100, what), due[what]);
        }
    }

    private static void foreseeFull() {
        CHECK.sentence("Returns this, if nothing is done (of ten tanks and fourteen pipes)");
        AqueductTanks x = new AqueductTanks();
        for (int tank = 0; tank < 10; tank++) {
            x.build(tank == 0 ? 99 : 0, tank == 0 ? 20 : 3, 2);
        }
        for (int pipe = 0; pipe < 14; pipe++) {
            x.lay(0, 1 + pipe % 9, 1, 0);
            x.steal(pipe, 1);
        }
        // 20 and nine times 3 come; 14 flow and are lost, 2 are drunk from each tank.
        int[] due = {20, 14, 47 - 20 - 14, 14};
        for (int what = 0; what <= 3; what++) {
            CHECK.same("foresee(1, " + what + ")", x.foresee(1, what), due[what]);
        }
        CHECK.same("the last tank: sated(9)", x.sated(9), 1);
        CHECK.same("no crust: advise(1)", x.advise(1), -1);
    }

    private static void foreseeNothingChanged() {
        CHECK.sentence("(nothing is changed) (foresee)");
        AqueductTanks x = tapped();
        AqueductTanks twin = tapped();
        long before = x.digest();
        for (int what = 0; what <= 3; what++) {
            int first = x.foresee(100, what);
            CHECK.same("foresee(100, " + what + "), then digest()", x.digest(), before);
            x.foresee(1, what);
            CHECK.same("foresee(1, " + what + "), then digest()", x.digest(), before);
            CHECK.same("foresee(100, " + what + ") again", x.foresee(100, what), first);
        }
        CHECK.same("pass(30)", x.pass(30), twin.pass(30));
        CHECK.same("pass(30), digest()", x.digest(), twin.digest());
    }

    private static void foreseeArguments() {
        CHECK.sentence("Throws IllegalArgumentException if days is not 1 to 100 (foresee)");
        AqueductTanks x = Lands.falling(1);
        for (int wrong : Lands.outside(1, 100)) {
            for (int what = -1; what <= 4; what++) {
                int asked = what;
                CHECK.refusedBy(x, "foresee(" + wrong + ", " + what + ")", ARGUMENT, () -> x.foresee(wrong, asked));
            }
        }
    }

    private static void foreseeNoWhat() {
        CHECK.sentence("Throws IndexOutOfBoundsException if what is not 0 to 3");
        AqueductTanks x = Lands.falling(1);
        for (int wrong : Lands.outside(0, 3)) {
            CHECK.refusedBy(x, "foresee(1, " + wrong + ")", INDEX, () -> x.foresee(1, wrong));
            CHECK.refusedBy(x, "foresee(100, " + wrong + ")", INDEX, () -> x.foresee(100, wrong));
        }
        CHECK.same("the first: foresee(1, 0)", x.foresee(1, 0), 0);
        CHECK.same("the last: foresee(1, 3)", x.foresee(1, 3), 1);
    }

    // ---- promise 15

    /** Pipes of these widths from a full tank to a thirsty and dry one; each pipe has a crust of 1. */
    private static AqueductTanks crusted(int... widths) {
        AqueductTanks x = Lands.with(tank(99, 200, 0), tank(0, 0, 0));
        for (int width : widths) {
            x.lay(0, 1, width, 0);
        }
        x.pass(1);
        for (int time = 0; time < 8; time++) {
            x.flush(1);
        }
        x.set(1, 0, 20);
        return x;
    }

    private static void adviseSmallest() {
        CHECK.sentence("Returns this pipe, of several the one with the smallest number");
        AqueductTanks x = crusted(1, 1, 1);
        CHECK.same("each brings 1 more: advise(1)", x.advise(1), 0);
        CHECK.same("each brings as much more: advise(60)", x.advise(60), 0);
        x.scrape(0);
        CHECK.same("the first is clean: advise(1)", x.advise(1), 1);
        x.scrape(1);
        CHECK.same("the last alone: advise(1)", x.advise(1), 2);
        // The first pipe has 1 crust, the second one has 2.
        AqueductTanks y = crusted(1, 3);
        y.pass(4);
        CHECK.same("1 more and 2 more: advise(1)", y.advise(1), 1);
        AqueductTanks full = crusted(1, 1, 1, 1, 1, 1, 1, 1, 1, 1, 1, 1, 1, 1);
        CHECK.same("of fourteen: advise(1)", full.advise(1), 0);
        for (int pipe = 0; pipe < 13; pipe++) {
            full.scrape(pipe);
        }
        CHECK.same("the last of fourteen: advise(1)", full.advise(1), 13);
    }

    private static void adviseNone() {
        CHECK.sentence("-1 if no more is drunk by any");
        CHECK.same("no pipes: advise(60)", Lands.dry(2).advise(60), -1);
        AqueductTanks clean = Lands.falling(2);
        clean.set(1, 0, 20);
        CHECK.same("no crust: advise(60)", clean.advise(60), -1);
        AqueductTanks idle = crusted(1, 1);
        idle.set(1, 0, 0);
        CHECK.same("nobody is thirsty: advise(60)", idle.advise(60), -1);
        AqueductTanks scraped = crusted(1, 2);
        scraped.scrape(0);
        scraped.scrape(1);
        CHECK.same("narrow, but clean: advise(1)", scraped.advise(1), -1);
        CHECK.same("narrow, but clean: advise(60)", scraped.advise(60), -1);
        // Scraped, the pipe takes 1 more away from the only fountain, which is at its upper end.
        AqueductTanks worse = Lands.with(tank(99, 200, 0), tank(0, 0, 0));
        worse.lay(0, 1, 1, 0);
        worse.pass(1);
        for (int time = 0; time < 8; time++) {
            worse.flush(0);
        }
        worse.set(0, 5, 5);
        CHECK.same("less is drunk: advise(1)", worse.advise(1), -1);
        CHECK.same("as it is: foresee(1, 0)", worse.foresee(1, 0), 5);
        worse.scrape(0);
        CHECK.same("scraped: foresee(1, 0)", worse.foresee(1, 0), 4);
    }

    private static void adviseDays() {
        CHECK.sentence("so that the most is drunk in so many days (on the first and on the last of 60)");
        // The spring of 1 overcomes the dip of 60 on day 60; the pipe is closed until it is scraped.
        AqueductTanks x = Lands.with(tank(0, 60, 0), tank(0, 0, 0));
        x.lay(0, 1, 1, 60);
        x.pass(1);
        CHECK.same("closed: pipe(0, 4)", x.pipe(0, 4), 1);
        for (int time = 0; time < 6; time++) {
            x.flush(0);
        }
        x.set(0, 1, 0);
        x.flush(1);
        x.set(1, 0, 1);
        CHECK.same("dry: count(3)", x.count(3), 0);
        CHECK.same("not on 59 days: advise(59)", x.advise(59), -1);
        CHECK.same("on the last one: advise(60)", x.advise(60), 0);
        CHECK.same("on the first one: advise(1)", crusted(1).advise(1), 0);
        // Pipe 1 brings more, but through a tank from which it goes on a day later; pipe 2 brings 1 more at once.
        AqueductTanks y = Lands.with(tank(99, 200, 0), tank(50, 0, 0), tank(0, 0, 0));
        y.lay(1, 2, 20, 0);
        y.lay(0, 1, 3, 0);
        y.lay(0, 2, 1, 0);
        y.pass(1);
        y.flush(1);
        y.flush(1);
        y.flush(2);
        y.set(2, 0, 20);
        CHECK.same("dry below: count(3)", y.count(3), y.tank(0, 3));
        // 2 on 4 days and 1 on 4 days; scraped, pipe 1 brings 3, 2 and 1 on 4 days each.
        CHECK.same("foresee(60, 0)", y.foresee(60, 0), 12);
        CHECK.same("on the first one: advise(1)", y.advise(1), 2);
        CHECK.same("in 60 days: advise(60)", y.advise(60), 1);
        y.scrape(1);
        CHECK.same("scraped: foresee(60, 0)", y.foresee(60, 0), 24);
    }

    private static void adviseNothingChanged() {
        CHECK.sentence("(nothing is changed) (advise)");
        AqueductTanks x = crusted(1, 3, 2);
        AqueductTanks twin = crusted(1, 3, 2);
        long before = x.digest();
        int first = x.advise(60);
        CHECK.same("advise(60), then digest()", x.digest(), before);
        x.advise(1);
        CHECK.same("advise(1), then digest()", x.digest(), before);
        CHECK.same("advise(60) again", x.advise(60), first);
        CHECK.same("pass(30)", x.pass(30), twin.pass(30));
        CHECK.same("pass(30), digest()", x.digest(), twin.digest());
    }

    private static void adviseArguments() {
        CHECK.sentence("Throws IllegalArgumentException if days is not 1 to 60");
        AqueductTanks x = crusted(1);
        for (int wrong : Lands.outside(1, 60)) {
            CHECK.refusedBy(x, "advise(" + wrong + ")", ARGUMENT, () -> x.advise(wrong));
        }
        CHECK.refusedBy(x, "advise(100)", ARGUMENT, () -> x.advise(100));
        CHECK.same("the least: advise(1)", x.advise(1), 0);
        CHECK.same("the most: advise(60)", x.advise(60), 0);
        AqueductTanks empty = new AqueductTanks();
        CHECK.refusedBy(empty, "no tanks: advise(61)", ARGUMENT, () -> empty.advise(61));
    }

    // ---- promise 16

    private static void satedAtMost() {
        CHECK.sentence("behind how many days its fountain gets all of its thirst on a day, if nothing is done, at most 100");
        // The height of the other tank, the water ahead, and the day on which a spring of 1 has overcome the dip of 60.
        int[][] rows = {{0, 59, 1}, {0, 58, 2}, {0, 10, 50}, {0, 0, 60}, {4, 1, 99}, {4, 0, 100}, {5, 10, 100}, {5, 9, -1},
            {5, 0, -1}};
        for (int[] row : rows) {
            AqueductTanks x = Lands.with(tank(0, row[1], 0), tank(row[0], 0, 0));
            x.lay(0, 1, 1, 60);
            x.set(0, 1, 0);
            x.set(1, 0, 1);
            CHECK.same("a height of " + row[0] + ", a water of " + row[1] + ": sated(1)", x.sated(1), row[2]);
        }
    }

    private static void satedAllOfIt() {
        CHECK.sentence("its fountain gets all of its thirst on a day");
        AqueductTanks x = Lands.with(tank(0, 0, 0), tank(0, 100, 99), tank(0, 100, 49), tank(0, 5, 0), tank(0, 0, 99));
        x.set(0, 5, 5);
        CHECK.same("as much as the spring: sated(0)", x.sated(0), 1);
        x.set(0, 5, 6);
        CHECK.same("1 more than the spring: sated(0)", x.sated(0), -1);
        x.set(1, 0, 2);
        CHECK.same("half of 2, for the mud: sated(1)", x.sated(1), -1);
        x.set(1, 0, 1);
        CHECK.same("half of 1, for the mud: sated(1)", x.sated(1), -1);
        x.set(2, 0, 20);
        CHECK.same("a mud of 49: sated(2)", x.sated(2), 1);
        x.set(3, 0, 5);
        CHECK.same("the last water: sated(3)", x.sated(3), 1);
        CHECK.same("no thirst, no water, mud: sated(4)", x.sated(4), 1);
        x.set(4, 0, 1);
        CHECK.same("a thirst of 1, no water: sated(4)", x.sated(4), -1);
    }

    private static void satedNever() {
        CHECK.sentence("-1 if on none of them");
        AqueductTanks x = Lands.with(tank(0, 8, 0));
        x.set(0, 0, 8);
        x.pass(1);
        CHECK.same("all of it on the day that went by: tank(0, 5)", x.tank(0, 5), 8);
        CHECK.same("none later: sated(0)", x.sated(0), -1);
        x.set(0, 0, 0);
        CHECK.same("no thirst: sated(0)", x.sated(0), 1);
        AqueductTanks y = new AqueductTanks();
        y.build(0, 1, 20);
        y.build(0, 0, 20);
        CHECK.same("1 a day is never 20: sated(0)", y.sated(0), -1);
        CHECK.same("no water: sated(1)", y.sated(1), -1);
    }

    private static void satedNothingChanged() {
        CHECK.sentence("(nothing is changed) (sated)");
        AqueductTanks x = tapped();
        AqueductTanks twin = tapped();
        long before = x.digest();
        int first = x.sated(1);
        CHECK.same("sated(1), then digest()", x.digest(), before);
        x.sated(0);
        CHECK.same("sated(0), then digest()", x.digest(), before);
        CHECK.same("sated(1) again", x.sated(1), first);
        CHECK.same("pass(30)", x.pass(30), twin.pass(30));
        CHECK.same("pass(30), digest()", x.digest(), twin.digest());
    }

    private static void satedNoTank() {
        CHECK.sentence("Throws IndexOutOfBoundsException if there is no such tank (sated)");
        AqueductTanks x = Lands.dry(3);
        for (int wrong : Lands.outside(0, 2)) {
            CHECK.refusedBy(x, "sated(" + wrong + ")", INDEX, () -> x.sated(wrong));
        }
        CHECK.same("the last: sated(2)", x.sated(2), 1);
        AqueductTanks full = Lands.dry(10);
        CHECK.refusedBy(full, "of ten: sated(10)", INDEX, () -> full.sated(10));
    }

    // ---- promise 17

    private static void meanDivided() {
        CHECK.sentence("Returns what was drunk in all, divided by the days that went by");
        AqueductTanks x = new AqueductTanks();
        x.build(0, 1, 1);
        x.build(0, 1, 20);
        x.pass(1);
        CHECK.sameDouble("2 / 1: mean()", x.mean(), 2.0);
        x.set(0, 0, 1);
        x.pass(1);
        CHECK.sameDouble("3 / 2: mean()", x.mean(), 1.5);
        x.set(1, 0, 1);
        x.pass(1);
        CHECK.sameDouble("3 / 3: mean()", x.mean(), 1.0);
        x.pass(4);
        CHECK.sameDouble("3 / 7: mean()", x.mean(), 3.0 / 7.0);
        x.pass(100);
        CHECK.sameDouble("3 / 107: mean()", x.mean(), 3.0 / 107.0);
    }

    private static void meanNone() {
        CHECK.sentence("0 if none did.");
        CHECK.sameDouble("no tanks: mean()", new AqueductTanks().mean(), 0.0);
        AqueductTanks x = new AqueductTanks();
        x.build(0, 20, 20);
        CHECK.sameDouble("ahead of the first day: mean()", x.mean(), 0.0);
        x.foresee(100, 0);
        x.sated(0);
        x.advise(60);
        CHECK.sameDouble("only foreseen: mean()", x.mean(), 0.0);
        x.pass(1);
        CHECK.sameDouble("a day: mean()", x.mean(), 20.0);
    }

    // ---- promise 18

    private static void digestStart() {
        CHECK.sentence("A number d starts with 1031");
        // A new land tells nine times 0: 1031 * 31^9. A day later the first of them is 1: 31^8 more.
        CHECK.same("new: digest()", new AqueductTanks().digest(), 27259250447651801L);
        AqueductTanks x = new AqueductTanks();
        x.pass(1);
        CHECK.same("a day later: digest()", x.digest(), 27259250447651801L + 852891037441L);
    }

    private static void digestWraps() {
        CHECK.sentence("d becomes d * 31 + x, which wraps around as a 64-bit integer");
        AqueductTanks x = new AqueductTanks();
        x.build(0, 0, 0);
        // Reckoned apart in numbers that don't wrap around, and then cut to 64 bits.
        long[] due = {-8371213886957320008L, 4291474709557634745L, -1492580767636962118L, -7276636244831558981L};
        for (int day = 0; day < due.length; day++) {
            CHECK.same("day " + day + ", a dry tank: digest()", x.digest(), due[day]);
            x.pass(1);
        }
        AqueductTanks full = Lands.falling(14);
        full.pass(7);
        CHECK.same("two tanks and fourteen pipes: digest()", full.digest(), reckoned(full));
    }

    private static void digestOrder() {
        CHECK.sentence("what count() tells, in its order; for each tank what tank() tells, in its order;"
            + " for each pipe what pipe() tells, in its order, and its stolen tap");
        for (int tanks = 0; tanks <= 10; tanks++) {
            AqueductTanks x = staggered(tanks);
            CHECK.same(tanks + " tanks: digest()", x.digest(), reckoned(x));
        }
        int[] taps = new int[14];
        for (int pipe = 0; pipe < 14; pipe++) {
            taps[pipe] = (pipe + 1) % 10;
        }
        AqueductTanks full = tappedWith(taps);
        CHECK.same("full: digest()", full.digest(), reckoned(full, taps));
        full.scrape(13);
        CHECK.same("the last pipe is scraped: digest()", full.digest(), reckoned(full, taps));
        taps[13] = 0;
        AqueductTanks closed = tappedWith(taps);
        CHECK.same("the last tap is closed: digest()", closed.digest(), reckoned(closed, taps));
    }

    private static AqueductTanks staggered(int tanks) {
        AqueductTanks x = new AqueductTanks();
        for (int tank = 0; tank < tanks; tank++) {
            x.build(99 - 10 * tank, 20 - tank, 3 * tank % 20);
        }
        return x;
    }

    private static AqueductTanks tappedWith(int[] taps) {
        AqueductTanks x = staggered(10);
        for (int pipe = 0; pipe < taps.length; pipe++) {
            x.lay(pipe % 9, 9, 20 - pipe, 3 * pipe);
            x.steal(pipe, taps[pipe]);
        }
        x.pass(13);
        return x;
    }

    /** The checksum in numbers that don't wrap around, cut to 64 bits at the end. */
    private static long reckoned(AqueductTanks x, int... taps) {
        BigInteger d = BigInteger.valueOf(1031);
        for (int what = 0; what <= 8; what++) {
            d = joined(d, x.count(what));
        }
        int tanks = x.count(1);
        for (int tank = 0; tank < tanks; tank++) {
            for (int what = 0; what <= 7; what++) {
                d = joined(d, x.tank(tank, what));
            }
        }
        int pipes = x.count(2);
        for (int pipe = 0; pipe < pipes; pipe++) {
            for (int what = 0; what <= 8; what++) {
                d = joined(d, x.pipe(pipe, what));
            }
            d = joined(d, pipe < taps.length ? taps[pipe] : 0);
        }
        return d.longValue();
    }

    private static BigInteger joined(BigInteger d, int x) {
        return d.multiply(BigInteger.valueOf(31)).add(BigInteger.valueOf(x));
    }
}
