/** Each promise with ordinary inputs, its edges and wrong inputs; all answers are worked out by hand. */
public final class PromisesTest {
    private static final Class<?> INDEX = IndexOutOfBoundsException.class;
    private static final Class<?> ARGUMENT = IllegalArgumentException.class;
    private static final Class<?> STATE = IllegalStateException.class;
    private static final int[] FAR = {Integer.MIN_VALUE, -1, Integer.MAX_VALUE};
    private static final Check CHECK = new Check();

    public static void main(String[] args) {
        newObject();
        build();
        buildRefuses();
        lay();
        layRefuses();
        set();
        flush();
        scrape();
        steal();
        tank();
        pipe();
        count();
        countsThirstyTanks();
        reach();
        suspect();
        pass();
        springsSpillAndMuddy();
        flowNeedsDifferenceAndDip();
        flowIsBounded();
        pipesFlowByNumbers();
        mudWanders();
        tapsLose();
        crustGrows();
        fountainsDrink();
        foresee();
        advise();
        sated();
        mean();
        digest();
        fullLand();
        CHECK.end();
    }

    // ---- lands to start from

    private static AqueductTanks twoTanks(int height0, int spring0, int thirst0, int height1, int spring1, int thirst1) {
        AqueductTanks x = new AqueductTanks();
        x.build(height0, spring0, thirst0);
        x.build(height1, spring1, thirst1);
        return x;
    }

    /** A spring of 20 high above, a pipe as wide as can be, a fountain that asks for 20. */
    private static AqueductTanks fall() {
        AqueductTanks x = twoTanks(99, 20, 0, 0, 0, 20);
        x.lay(0, 1, 20, 0);
        return x;
    }

    /** Two narrow pipes side by side that have grown crust: after 5 days 1 and 2. */
    private static AqueductTanks crusted() {
        AqueductTanks x = twoTanks(99, 20, 0, 0, 0, 20);
        x.lay(0, 1, 1, 0);
        x.lay(0, 1, 3, 0);
        x.pass(5);
        return x;
    }

    private static void unchanged(String call, AqueductTanks x, long before) {
        CHECK.same("digest() after " + call, x.digest(), before);
    }

    private static void refused(AqueductTanks x, String call, Class<?> due, Check.Call made) {
        CHECK.refusedBy(x, call, due, made);
    }

    // ---- promise 1

    private static void newObject() {
        AqueductTanks x = new AqueductTanks();
        for (int what = 0; what <= 8; what++) {
            CHECK.same("new: count(" + what + ")", x.count(what), 0);
        }
        CHECK.same("new: suspect()", x.suspect(), -1);
        CHECK.sameDouble("new: mean()", x.mean(), 0.0);
        refused(x, "new: tank(0, 0)", INDEX, () -> x.tank(0, 0));
        refused(x, "new: pipe(0, 0)", INDEX, () -> x.pipe(0, 0));
        refused(x, "new: reach(0)", INDEX, () -> x.reach(0));
        CHECK.same("new: advise(60)", x.advise(60), -1);
        CHECK.same("new: foresee(100, 2)", x.foresee(100, 2), 0);
        CHECK.same("new: pass(100)", x.pass(100), 0);
        CHECK.same("new: count(0) after it", x.count(0), 100);
        CHECK.same("another new one: count(0)", new AqueductTanks().count(0), 0);
    }

    // ---- promise 2

    private static void build() {
        AqueductTanks x = new AqueductTanks();
        CHECK.same("build(0, 0, 0)", x.build(0, 0, 0), 0);
        CHECK.same("build(99, 20, 20)", x.build(99, 20, 20), 1);
        CHECK.same("build(7, 8, 9)", x.build(7, 8, 9), 2);
        int[][] due = {{0, 0, 0}, {99, 20, 20}, {7, 8, 9}};
        for (int tank = 0; tank < 3; tank++) {
            for (int what = 0; what < 3; what++) {
                CHECK.same("built: tank(" + tank + ", " + what + ")", x.tank(tank, what), due[tank][what]);
            }
            for (int what = 3; what < 8; what++) {
                CHECK.same("built: tank(" + tank + ", " + what + ")", x.tank(tank, what), 0);
            }
        }
        for (int number = 3; number < 10; number++) {
            CHECK.same("build again", x.build(1, 1, 1), number);
        }
        refused(x, "build, an eleventh", STATE, () -> x.build(1, 1, 1));
        refused(x, "build, an eleventh and too high", ARGUMENT, () -> x.build(100, 1, 1));
        CHECK.same("ten: count(1)", x.count(1), 10);
    }

    private static void buildRefuses() {
        AqueductTanks x = new AqueductTanks();
        refused(x, "build(100, 0, 0)", ARGUMENT, () -> x.build(100, 0, 0));
        refused(x, "build(0, 21, 0)", ARGUMENT, () -> x.build(0, 21, 0));
        refused(x, "build(0, 0, 21)", ARGUMENT, () -> x.build(0, 0, 21));
        for (int far : FAR) {
            refused(x, "build(" + far + ", 0, 0)", ARGUMENT, () -> x.build(far, 0, 0));
            refused(x, "build(0, " + far + ", 0)", ARGUMENT, () -> x.build(0, far, 0));
            refused(x, "build(0, 0, " + far + ")", ARGUMENT, () -> x.build(0, 0, far));
        }
        CHECK.same("build after the refused ones", x.build(0, 0, 0), 0);
    }

    // ---- promise 3

    private static void lay() {
        AqueductTanks x = twoTanks(1, 0, 0, 2, 0, 0);
        CHECK.same("lay(0, 1, 1, 0)", x.lay(0, 1, 1, 0), 0);
        CHECK.same("lay(1, 0, 20, 60)", x.lay(1, 0, 20, 60), 1);
        int[][] due = {{0, 1, 1, 0, 0, 0, 0, 0, 0}, {1, 0, 20, 60, 0, 0, 0, 0, 0}};
        for (int pipe = 0; pipe < 2; pipe++) {
            for (int what = 0; what < 9; what++) {
                CHECK.same("laid: pipe(" + pipe + ", " + what + ")", x.pipe(pipe, what), due[pipe][what]);
            }
        }
        for (int number = 2; number < 14; number++) {
            CHECK.same("lay again", x.lay(0, 1, 3, 4), number);
        }
        refused(x, "lay, a fifteenth", STATE, () -> x.lay(0, 1, 3, 4));
        refused(x, "lay, a fifteenth and too wide", ARGUMENT, () -> x.lay(0, 1, 21, 4));
        refused(x, "lay, a fifteenth and no tank", INDEX, () -> x.lay(0, 2, 21, 4));
        CHECK.same("fourteen: count(2)", x.count(2), 14);
    }

    private static void layRefuses() {
        AqueductTanks x = twoTanks(1, 0, 0, 2, 0, 0);
        refused(x, "lay(2, 0, 1, 0)", INDEX, () -> x.lay(2, 0, 1, 0));
        refused(x, "lay(0, 2, 1, 0)", INDEX, () -> x.lay(0, 2, 1, 0));
        refused(x, "lay(2, 2, 0, 61)", INDEX, () -> x.lay(2, 2, 0, 61));
        refused(x, "lay(1, 1, 1, 0)", ARGUMENT, () -> x.lay(1, 1, 1, 0));
        refused(x, "lay(0, 1, 0, 0)", ARGUMENT, () -> x.lay(0, 1, 0, 0));
        refused(x, "lay(0, 1, 21, 0)", ARGUMENT, () -> x.lay(0, 1, 21, 0));
        refused(x, "lay(0, 1, 1, 61)", ARGUMENT, () -> x.lay(0, 1, 1, 61));
        for (int far : FAR) {
            refused(x, "lay(" + far + ", 1, 1, 0)", INDEX, () -> x.lay(far, 1, 1, 0));
            refused(x, "lay(0, " + far + ", 1, 0)", INDEX, () -> x.lay(0, far, 1, 0));
            refused(x, "lay(0, 1, " + far + ", 0)", ARGUMENT, () -> x.lay(0, 1, far, 0));
            refused(x, "lay(0, 1, 1, " + far + ")", ARGUMENT, () -> x.lay(0, 1, 1, far));
        }
        CHECK.same("lay after the refused ones", x.lay(0, 1, 1, 0), 0);
    }

    // ---- promise 4

    private static void set() {
        AqueductTanks x = twoTanks(1, 12, 8, 2, 20, 20);
        CHECK.same("set(0, 20, 0)", x.set(0, 20, 0), 1208);
        CHECK.same("set(0, 0, 20)", x.set(0, 0, 20), 2000);
        CHECK.same("set(0, 3, 5)", x.set(0, 3, 5), 20);
        CHECK.same("set: tank(0, 1)", x.tank(0, 1), 3);
        CHECK.same("set: tank(0, 2)", x.tank(0, 2), 5);
        CHECK.same("set: tank(1, 1)", x.tank(1, 1), 20);
        CHECK.same("set: pass(1)", x.pass(1), 23);
        refused(x, "set(2, 0, 0)", INDEX, () -> x.set(2, 0, 0));
        refused(x, "set(2, 21, 0)", INDEX, () -> x.set(2, 21, 0));
        refused(x, "set(0, 21, 0)", ARGUMENT, () -> x.set(0, 21, 0));
        refused(x, "set(0, 0, 21)", ARGUMENT, () -> x.set(0, 0, 21));
        for (int far : FAR) {
            refused(x, "set(" + far + ", 0, 0)", INDEX, () -> x.set(far, 0, 0));
            refused(x, "set(0, " + far + ", 0)", ARGUMENT, () -> x.set(0, far, 0));
            refused(x, "set(0, 0, " + far + ")", ARGUMENT, () -> x.set(0, 0, far));
        }
    }

    // ---- promise 5

    private static void flush() {
        AqueductTanks x = twoTanks(1, 15, 0, 2, 20, 0);
        x.pass(1);
        CHECK.same("flush(0)", x.flush(0), 3);
        CHECK.same("flushed: tank(0, 3)", x.tank(0, 3), 7);
        CHECK.same("flushed: tank(0, 4)", x.tank(0, 4), 0);
        CHECK.same("flushed: tank(0, 7)", x.tank(0, 7), 0);
        CHECK.same("flushed: tank(1, 3)", x.tank(1, 3), 20);
        CHECK.same("flushed: tank(1, 4)", x.tank(1, 4), 5);
        CHECK.same("flush(0) again", x.flush(0), 0);
        CHECK.same("flushed again: tank(0, 3)", x.tank(0, 3), 3);
        refused(x, "flush(2)", INDEX, () -> x.flush(2));
        for (int far : FAR) {
            refused(x, "flush(" + far + ")", INDEX, () -> x.flush(far));
        }
    }

    // ---- promise 6

    private static void scrape() {
        AqueductTanks x = crusted();
        CHECK.same("scrape(1)", x.scrape(1), 2);
        CHECK.same("scraped: pipe(1, 4)", x.pipe(1, 4), 0);
        CHECK.same("scraped: pipe(0, 4)", x.pipe(0, 4), 1);
        CHECK.same("scrape(1) again", x.scrape(1), 0);
        refused(x, "scrape(2)", INDEX, () -> x.scrape(2));
        for (int far : FAR) {
            refused(x, "scrape(" + far + ")", INDEX, () -> x.scrape(far));
        }
    }

    // ---- promise 7

    private static void steal() {
        AqueductTanks x = fall();
        CHECK.same("steal(0, 9)", x.steal(0, 9), 0);
        CHECK.same("steal(0, 4)", x.steal(0, 4), 9);
        CHECK.same("stolen: pass(1)", x.pass(1), 16);
        CHECK.same("stolen: pipe(0, 6)", x.pipe(0, 6), 4);
        CHECK.same("steal(0, 0)", x.steal(0, 0), 4);
        CHECK.same("no more stolen: pass(1)", x.pass(1), 19);
        refused(x, "steal(1, 0)", INDEX, () -> x.steal(1, 0));
        refused(x, "steal(1, 10)", INDEX, () -> x.steal(1, 10));
        refused(x, "steal(0, 10)", ARGUMENT, () -> x.steal(0, 10));
        for (int far : FAR) {
            refused(x, "steal(" + far + ", 0)", INDEX, () -> x.steal(far, 0));
            refused(x, "steal(0, " + far + ")", ARGUMENT, () -> x.steal(0, far));
        }
    }

    // ---- promise 8

    private static void tank() {
        AqueductTanks x = new AqueductTanks();
        x.build(31, 20, 7);
        x.pass(2);
        x.set(0, 20, 9);
        x.pass(1);
        // Water: 20 - 7, 33 - 7, 46 - 9.
        int[] due = {31, 20, 9, 37, 15, 9, 23, 0};
        for (int what = 0; what < 8; what++) {
            CHECK.same("tank(0, " + what + ")", x.tank(0, what), due[what]);
        }
        refused(x, "tank(0, 8)", INDEX, () -> x.tank(0, 8));
        refused(x, "tank(1, 0)", INDEX, () -> x.tank(1, 0));
        for (int far : FAR) {
            refused(x, "tank(" + far + ", 0)", INDEX, () -> x.tank(far, 0));
            refused(x, "tank(0, " + far + ")", INDEX, () -> x.tank(0, far));
        }
    }

    // ---- promise 9

    private static void pipe() {
        AqueductTanks x = twoTanks(50, 20, 0, 45, 0, 20);
        x.lay(0, 1, 12, 11);
        x.steal(0, 2);
        x.pass(1);
        // Heads 520 and 450 let 8 flow; then 512 and 450 (the fountain drank all of 6) let 7 flow.
        int[] due = {0, 1, 12, 11, 1, 8, 2, 2, 7};
        for (int what = 0; what < 9; what++) {
            CHECK.same("pipe(0, " + what + ")", x.pipe(0, what), due[what]);
        }
        x.pass(1);
        CHECK.same("second day: pipe(0, 5)", x.pipe(0, 5), 9);
        CHECK.same("second day: pipe(0, 6)", x.pipe(0, 6), 2);
        CHECK.same("second day: pipe(0, 7)", x.pipe(0, 7), 4);
        refused(x, "pipe(0, 9)", INDEX, () -> x.pipe(0, 9));
        refused(x, "pipe(1, 0)", INDEX, () -> x.pipe(1, 0));
        for (int far : FAR) {
            refused(x, "pipe(" + far + ", 0)", INDEX, () -> x.pipe(far, 0));
            refused(x, "pipe(0, " + far + ")", INDEX, () -> x.pipe(0, far));
        }
    }

    // ---- promise 10

    private static void count() {
        AqueductTanks x = twoTanks(99, 20, 0, 0, 4, 10);
        x.build(5, 20, 0);
        x.lay(0, 1, 20, 0);
        x.lay(0, 1, 20, 0);
        x.steal(0, 9);
        x.steal(1, 5);
        x.pass(11);
        int[] due = new int[9];
        due[0] = 11;
        due[1] = 3;
        due[2] = 2;
        for (int tank = 0; tank < 3; tank++) {
            due[3] += x.tank(tank, 3);
            due[4] += x.tank(tank, 4);
            due[5] += x.tank(tank, 6);
            due[7] += x.tank(tank, 7);
        }
        due[6] = x.pipe(0, 7) + x.pipe(1, 7);
        for (int what = 0; what < 8; what++) {
            CHECK.same("count(" + what + ")", x.count(what), due[what]);
        }
        // What springs brought is there, drunk, lost or spilled; tank 2 alone spills: 11 * 20 - 200.
        CHECK.same("all that came", due[3] + due[5] + due[6] + due[7], 11 * 44);
        CHECK.same("count(7), by hand", x.count(7), 20);
        refused(x, "count(9)", INDEX, () -> x.count(9));
        for (int far : FAR) {
            refused(x, "count(" + far + ")", INDEX, () -> x.count(far));
        }
    }

    private static void countsThirstyTanks() {
        AqueductTanks x = twoTanks(1, 5, 5, 2, 4, 5);
        CHECK.same("ahead of the first day: count(8)", x.count(8), 2);
        x.pass(1);
        CHECK.same("4 of 5 drunk: count(8)", x.count(8), 1);
        x.set(1, 0, 4);
        CHECK.same("the thirst is less now: count(8)", x.count(8), 0);
        x.set(0, 5, 6);
        CHECK.same("the thirst is more now: count(8)", x.count(8), 1);
        x.build(3, 1, 1);
        CHECK.same("a new tank has drunk nothing: count(8)", x.count(8), 2);
        x.build(3, 1, 0);
        CHECK.same("no thirst: count(8)", x.count(8), 2);
    }

    // ---- promise 11

    private static void reach() {
        AqueductTanks x = new AqueductTanks();
        for (int tank = 0; tank < 10; tank++) {
            x.build(tank, 0, 0);
        }
        CHECK.same("no pipes: reach(4)", x.reach(4), 0);
        // Laid against their order, so that a single look along the pipes is not enough.
        for (int tank = 8; tank >= 0; tank--) {
            x.lay(tank, tank + 1, 1, 60);
        }
        CHECK.same("chain: reach(0)", x.reach(0), 1022);
        CHECK.same("chain: reach(7)", x.reach(7), 768);
        CHECK.same("chain: reach(9)", x.reach(9), 0);
        x.lay(3, 2, 1, 0);
        CHECK.same("a way back: reach(3)", x.reach(3), 1020);
        CHECK.same("a way back: reach(4)", x.reach(4), 992);
        x.lay(9, 0, 1, 0);
        CHECK.same("a ring: reach(0)", x.reach(0), 1023);
        CHECK.same("a ring: reach(9)", x.reach(9), 1023);
        refused(x, "reach(10)", INDEX, () -> x.reach(10));
        for (int far : FAR) {
            refused(x, "reach(" + far + ")", INDEX, () -> x.reach(far));
        }
    }

    // ---- promise 12

    private static void suspect() {
        AqueductTanks x = twoTanks(99, 20, 0, 0, 0, 20);
        for (int pipe = 0; pipe < 4; pipe++) {
            x.lay(0, 1, 5, 0);
        }
        x.pass(1);
        CHECK.same("nothing lost: suspect()", x.suspect(), -1);
        x.steal(1, 2);
        x.steal(2, 3);
        x.steal(3, 3);
        CHECK.same("taps alone lose nothing: suspect()", x.suspect(), -1);
        x.pass(1);
        CHECK.same("of several: suspect()", x.suspect(), 2);
        x.steal(2, 1);
        CHECK.same("the latest day counts: suspect()", x.suspect(), 2);
        x.pass(1);
        CHECK.same("the most: suspect()", x.suspect(), 3);
        x.set(0, 0, 0);
        x.flush(0);
        x.flush(0);
        x.flush(0);
        x.pass(2);
        CHECK.same("all run dry: suspect()", x.suspect(), -1);
        AqueductTanks y = fall();
        y.steal(0, 1);
        y.pass(1);
        CHECK.same("1 lost in pipe 0: suspect()", y.suspect(), 0);
    }

    // ---- promise 13 and what a day does

    private static void pass() {
        AqueductTanks x = fall();
        CHECK.same("pass(1)", x.pass(1), 20);
        // The crust of day 0 lets 19 through, that of day 4 lets 18 through.
        CHECK.same("pass(4)", x.pass(4), 76);
        CHECK.same("pass(2)", x.pass(2), 36);
        CHECK.same("passed: count(0)", x.count(0), 7);
        CHECK.same("pass(100)", x.pass(100), x.count(5) - 132);
        CHECK.same("passed: count(0)", x.count(0), 107);
        refused(x, "pass(0)", ARGUMENT, () -> x.pass(0));
        refused(x, "pass(101)", ARGUMENT, () -> x.pass(101));
        for (int far : FAR) {
            refused(x, "pass(" + far + ")", ARGUMENT, () -> x.pass(far));
        }
    }

    private static void springsSpillAndMuddy() {
        AqueductTanks x = twoTanks(1, 20, 0, 1, 7, 0);
        x.pass(10);
        CHECK.same("10 days: tank(0, 3)", x.tank(0, 3), 200);
        CHECK.same("10 days: tank(0, 7)", x.tank(0, 7), 0);
        CHECK.same("10 days: tank(1, 4)", x.tank(1, 4), 10);
        x.set(0, 19, 0);
        x.pass(1);
        CHECK.same("11 days: tank(0, 3)", x.tank(0, 3), 200);
        CHECK.same("11 days: tank(0, 7)", x.tank(0, 7), 19);
        CHECK.same("a full tank is muddied, too: tank(0, 4)", x.tank(0, 4), 54);
        x.set(0, 20, 0);
        x.pass(9);
        CHECK.same("20 days: tank(0, 4)", x.tank(0, 4), 99);
        x.pass(9);
        CHECK.same("29 days: tank(0, 4)", x.tank(0, 4), 99);
        CHECK.same("29 days: tank(1, 3)", x.tank(1, 3), 200);
        CHECK.same("29 days: tank(1, 7)", x.tank(1, 7), 3);
    }

    private static void flowNeedsDifferenceAndDip() {
        AqueductTanks x = twoTanks(5, 10, 0, 5, 0, 0);
        x.lay(0, 1, 20, 0);
        CHECK.same("as high: pipe(0, 8)", x.pipe(0, 8), 0);
        AqueductTanks y = twoTanks(5, 10, 0, 5, 0, 0);
        y.pass(1);
        y.lay(0, 1, 20, 0);
        y.lay(0, 1, 20, 10);
        y.lay(0, 1, 20, 11);
        y.lay(1, 0, 20, 0);
        CHECK.same("10 higher: pipe(0, 8)", y.pipe(0, 8), 2);
        CHECK.same("10 higher, as is the dip: pipe(1, 8)", y.pipe(1, 8), 2);
        CHECK.same("10 higher, the dip is 11: pipe(2, 8)", y.pipe(2, 8), 0);
        CHECK.same("10 lower: pipe(3, 8)", y.pipe(3, 8), 0);
        AqueductTanks z = twoTanks(5, 4, 0, 5, 4, 0);
        z.lay(0, 1, 20, 0);
        z.pass(3);
        CHECK.same("as full: pipe(0, 8)", z.pipe(0, 8), 0);
        CHECK.same("as full: pipe(0, 5)", z.pipe(0, 5), 0);
        CHECK.same("as full: pipe(0, 4)", z.pipe(0, 4), 0);
        z.set(1, 3, 0);
        CHECK.same("1 higher: foresee(1, 3)", z.foresee(1, 3), 0);
        z.pass(1);
        CHECK.same("1 higher: pipe(0, 5)", z.pipe(0, 5), 1);
        z.pass(1);
        CHECK.same("as full again: pipe(0, 5)", z.pipe(0, 5), 0);
    }

    private static void flowIsBounded() {
        AqueductTanks x = twoTanks(20, 9, 0, 0, 0, 0);
        x.pass(1);
        x.lay(0, 1, 5, 0);
        x.lay(0, 1, 20, 0);
        CHECK.same("by the width: pipe(0, 8)", x.pipe(0, 8), 5);
        CHECK.same("by the water: pipe(1, 8)", x.pipe(1, 8), 9);
        AqueductTanks y = twoTanks(10, 19, 0, 0, 0, 0);
        y.pass(1);
        y.lay(0, 1, 20, 0);
        CHECK.same("by a tenth and 1: pipe(0, 8)", y.pipe(0, 8), 12);
        AqueductTanks z = crusted();
        CHECK.same("by the crust: pipe(0, 8)", z.pipe(0, 8), 0);
        CHECK.same("by the crust: pipe(1, 8)", z.pipe(1, 8), 1);
    }

    private static void pipesFlowByNumbers() {
        AqueductTanks x = twoTanks(50, 10, 0, 40, 0, 0);
        x.build(30, 0, 20);
        x.lay(0, 1, 20, 0);
        x.lay(1, 2, 20, 0);
        CHECK.same("down in one day: pass(1)", x.pass(1), 10);
        AqueductTanks y = twoTanks(50, 10, 0, 40, 0, 0);
        y.build(30, 0, 20);
        y.lay(1, 2, 20, 0);
        y.lay(0, 1, 20, 0);
        CHECK.same("one tank a day: pass(1)", y.pass(1), 0);
        CHECK.same("one tank a day: pass(1) again", y.pass(1), 10);
        AqueductTanks z = twoTanks(50, 10, 10, 40, 0, 4);
        z.lay(0, 1, 4, 0);
        CHECK.same("pipes go ahead of fountains: pass(1)", z.pass(1), 10);
        CHECK.same("pipes go ahead of fountains: tank(0, 5)", z.tank(0, 5), 6);
    }

    private static void mudWanders() {
        AqueductTanks x = twoTanks(90, 20, 0, 0, 0, 0);
        x.pass(2);
        x.lay(0, 1, 7, 0);
        x.pass(1);
        // 15 mud in 60 water: 15 * 7 / 60 = 1.
        CHECK.same("wandered: tank(0, 4)", x.tank(0, 4), 14);
        CHECK.same("wandered: tank(1, 4)", x.tank(1, 4), 1);
        x.steal(0, 9);
        x.scrape(0);
        x.pass(1);
        // 19 mud in 73 water, 7 flow and all are lost: 19 * 7 / 73 = 1.
        CHECK.same("lost water leaves its mud: tank(1, 4)", x.tank(1, 4), 2);
        CHECK.same("lost water leaves its mud: tank(0, 4)", x.tank(0, 4), 18);
        AqueductTanks y = twoTanks(90, 20, 0, 0, 20, 0);
        y.pass(30);
        y.lay(0, 1, 20, 0);
        y.pass(1);
        // 99 * 20 / 200 = 9 wander off, though the other tank holds no more.
        CHECK.same("both muddy: tank(0, 4)", y.tank(0, 4), 90);
        CHECK.same("both muddy: tank(1, 4)", y.tank(1, 4), 99);
        CHECK.same("both full: tank(1, 7)", y.tank(1, 7), 20 * 21 + 20);
        AqueductTanks z = twoTanks(90, 4, 4, 0, 0, 0);
        z.pass(6);
        z.lay(0, 1, 20, 0);
        z.set(0, 1, 0);
        z.pass(1);
        CHECK.same("the last water takes all mud: tank(0, 4)", z.tank(0, 4), 0);
        CHECK.same("the last water takes all mud: tank(1, 4)", z.tank(1, 4), 6);
    }

    private static void tapsLose() {
        AqueductTanks x = twoTanks(99, 6, 0, 0, 0, 0);
        x.lay(0, 1, 20, 0);
        x.steal(0, 4);
        x.pass(1);
        CHECK.same("a part: pipe(0, 6)", x.pipe(0, 6), 4);
        CHECK.same("a part: tank(1, 3)", x.tank(1, 3), 2);
        x.steal(0, 9);
        x.pass(1);
        CHECK.same("no more than there is: pipe(0, 5)", x.pipe(0, 5), 6);
        CHECK.same("no more than there is: pipe(0, 6)", x.pipe(0, 6), 6);
        CHECK.same("no more than there is: tank(1, 3)", x.tank(1, 3), 2);
        CHECK.same("in all: pipe(0, 7)", x.pipe(0, 7), 10);
        AqueductTanks y = twoTanks(99, 20, 0, 0, 20, 0);
        y.pass(10);
        y.lay(0, 1, 20, 0);
        y.steal(0, 9);
        y.set(1, 0, 0);
        y.pass(1);
        CHECK.same("what is lost does not spill: tank(1, 7)", y.tank(1, 7), 11);
    }

    private static void crustGrows() {
        AqueductTanks x = fall();
        x.lay(1, 0, 20, 0);
        int[] due = {1, 1, 1, 1, 2, 2, 2, 2, 3};
        for (int day = 0; day < 9; day++) {
            x.pass(1);
            CHECK.same("day " + day + ": pipe(0, 4)", x.pipe(0, 4), due[day]);
            CHECK.same("day " + day + ", nothing flowed: pipe(1, 4)", x.pipe(1, 4), 0);
        }
        x.pass(100);
        CHECK.same("closed by crust: pipe(0, 4)", x.pipe(0, 4), 20);
        CHECK.same("closed by crust: pipe(0, 5)", x.pipe(0, 5), 0);
        CHECK.same("closed by crust: scrape(0)", x.scrape(0), 20);
        AqueductTanks y = twoTanks(99, 20, 0, 0, 0, 20);
        y.pass(1);
        y.lay(0, 1, 20, 0);
        y.pass(3);
        CHECK.same("days 1 to 3: pipe(0, 4)", y.pipe(0, 4), 0);
        y.pass(1);
        CHECK.same("day 4: pipe(0, 4)", y.pipe(0, 4), 1);
    }

    private static void fountainsDrink() {
        AqueductTanks x = new AqueductTanks();
        x.build(0, 4, 3);
        CHECK.same("a mud of 49: pass(49)", x.pass(49), 147);
        CHECK.same("a mud of 49: tank(0, 4)", x.tank(0, 4), 49);
        CHECK.same("a mud of 50: pass(1)", x.pass(1), 1);
        CHECK.same("a mud of 50: count(8)", x.count(8), 1);
        x.flush(0);
        CHECK.same("flushed: pass(1)", x.pass(1), 3);
        AqueductTanks y = new AqueductTanks();
        y.build(0, 5, 9);
        CHECK.same("no more than the water: pass(3)", y.pass(3), 15);
        CHECK.same("no more than the water: tank(0, 3)", y.tank(0, 3), 0);
        AqueductTanks z = new AqueductTanks();
        z.build(0, 20, 0);
        z.pass(20);
        z.set(0, 0, 20);
        for (int time = 0; time < 8; time++) {
            z.pass(2);
        }
        CHECK.same("half of 20, down to 40: tank(0, 3)", z.tank(0, 3), 40);
        z.pass(3);
        z.set(0, 0, 13);
        CHECK.same("half of 13: pass(1)", z.pass(1), 6);
        CHECK.same("no more than the water: pass(1)", z.pass(1), 4);
    }

    // ---- promise 14

    private static void foresee() {
        for (int days = 1; days <= 100; days += 33) {
            AqueductTanks x = crusted();
            x.steal(1, 1);
            x.pass(3);
            long before = x.digest();
            int drunkBefore = x.count(5);
            int lostBefore = x.count(6);
            int[] told = new int[4];
            for (int what = 0; what < 4; what++) {
                told[what] = x.foresee(days, what);
            }
            unchanged("foresee", x, before);
            CHECK.same("pass(" + days + ")", x.pass(days), told[0]);
            CHECK.same("foresee(" + days + ", 0)", told[0], x.count(5) - drunkBefore);
            CHECK.same("foresee(" + days + ", 1)", told[1], x.count(6) - lostBefore);
            CHECK.same("foresee(" + days + ", 2)", told[2], x.count(3));
            CHECK.same("foresee(" + days + ", 3)", told[3], x.pipe(0, 4) + x.pipe(1, 4));
        }
        AqueductTanks y = fall();
        y.steal(0, 3);
        CHECK.same("foresee(2, 0)", y.foresee(2, 0), 17 + 16);
        CHECK.same("foresee(2, 1)", y.foresee(2, 1), 6);
        CHECK.same("foresee(2, 2)", y.foresee(2, 2), 1);
        CHECK.same("foresee(5, 3)", y.foresee(5, 3), 2);
        refused(y, "foresee(0, 0)", ARGUMENT, () -> y.foresee(0, 0));
        refused(y, "foresee(101, 0)", ARGUMENT, () -> y.foresee(101, 0));
        refused(y, "foresee(101, 4)", ARGUMENT, () -> y.foresee(101, 4));
        refused(y, "foresee(100, 4)", INDEX, () -> y.foresee(100, 4));
        for (int far : FAR) {
            refused(y, "foresee(" + far + ", 0)", ARGUMENT, () -> y.foresee(far, 0));
            refused(y, "foresee(" + far + ", -1)", ARGUMENT, () -> y.foresee(far, -1));
            refused(y, "foresee(1, " + far + ")", INDEX, () -> y.foresee(1, far));
        }
    }

    // ---- promise 15

    private static void advise() {
        AqueductTanks x = crusted();
        long before = x.digest();
        // Scraped, pipe 0 lets 1 more through, pipe 1 lets 2 more through.
        CHECK.same("the most: advise(1)", x.advise(1), 1);
        unchanged("advise(1)", x, before);
        x.scrape(1);
        CHECK.same("the only one: advise(1)", x.advise(1), 0);
        x.scrape(0);
        CHECK.same("no crust: advise(60)", x.advise(60), -1);
        AqueductTanks y = twoTanks(99, 20, 0, 0, 0, 20);
        y.lay(0, 1, 1, 60);
        y.lay(0, 1, 1, 0);
        y.lay(0, 1, 1, 0);
        y.pass(1);
        CHECK.same("of several: advise(1)", y.advise(1), 0);
        y.scrape(0);
        CHECK.same("of several: advise(1)", y.advise(1), 1);
        y.set(1, 0, 0);
        CHECK.same("nobody drinks: advise(60)", y.advise(60), -1);
        refused(y, "advise(0)", ARGUMENT, () -> y.advise(0));
        refused(y, "advise(61)", ARGUMENT, () -> y.advise(61));
        for (int far : FAR) {
            refused(y, "advise(" + far + ")", ARGUMENT, () -> y.advise(far));
        }
    }

    // ---- promise 16

    private static void sated() {
        AqueductTanks x = twoTanks(0, 10, 0, 0, 0, 4);
        x.build(0, 4, 5);
        x.lay(0, 1, 20, 30);
        long before = x.digest();
        CHECK.same("no thirst: sated(0)", x.sated(0), 1);
        // After 10, 20 and 30 the dip is overcome: 30 / 10 + 1 flow.
        CHECK.same("on the third day: sated(1)", x.sated(1), 3);
        CHECK.same("never: sated(2)", x.sated(2), -1);
        unchanged("sated", x, before);
        x.pass(2);
        CHECK.same("tomorrow: sated(1)", x.sated(1), 1);
        AqueductTanks y = twoTanks(1, 1, 0, 5, 0, 1);
        y.lay(0, 1, 1, 60);
        CHECK.same("on the last day: sated(1)", y.sated(1), 100);
        AqueductTanks z = twoTanks(0, 1, 0, 5, 0, 1);
        z.lay(0, 1, 1, 51);
        CHECK.same("on the day behind it: sated(1)", z.sated(1), -1);
        AqueductTanks muddy = new AqueductTanks();
        muddy.build(0, 20, 1);
        muddy.pass(10);
        CHECK.same("half of the thirst is not all: sated(0)", muddy.sated(0), -1);
        refused(muddy, "sated(1)", INDEX, () -> muddy.sated(1));
        for (int far : FAR) {
            refused(muddy, "sated(" + far + ")", INDEX, () -> muddy.sated(far));
        }
    }

    // ---- promise 17

    private static void mean() {
        AqueductTanks x = twoTanks(0, 5, 20, 0, 2, 20);
        CHECK.sameDouble("ahead of the first day: mean()", x.mean(), 0.0);
        x.pass(2);
        CHECK.sameDouble("mean()", x.mean(), 7.0);
        x.set(0, 0, 0);
        x.pass(1);
        CHECK.sameDouble("mean()", x.mean(), 16.0 / 3);
        AqueductTanks y = new AqueductTanks();
        y.pass(7);
        CHECK.sameDouble("nothing drunk: mean()", y.mean(), 0.0);
    }

    // ---- promise 18

    private static void digest() {
        CHECK.same("new: digest()", new AqueductTanks().digest(), 27259250447651801L);
        AqueductTanks x = crusted();
        x.build(3, 20, 7);
        x.pass(30);
        x.steal(0, 3);
        x.steal(1, 8);
        x.scrape(1);
        CHECK.same("digest()", x.digest(), reckonedDigest(x, new int[] {3, 8}));
        CHECK.same("digest() again", x.digest(), reckonedDigest(x, new int[] {3, 8}));
    }

    private static long reckonedDigest(AqueductTanks x, int[] taps) {
        long d = 1031;
        for (int what = 0; what < 9; what++) {
            d = d * 31 + x.count(what);
        }
        for (int tank = 0; tank < x.count(1); tank++) {
            for (int what = 0; what < 8; what++) {
                d = d * 31 + x.tank(tank, what);
            }
        }
        for (int pipe = 0; pipe < x.count(2); pipe++) {
            for (int what = 0; what < 9; what++) {
                d = d * 31 + x.pipe(pipe, what);
            }
            d = d * 31 + taps[pipe];
        }
        return d;
    }

    // ---- ten tanks and fourteen pipes: every call goes up to the last of them

    private static void fullLand() {
        AqueductTanks x = new AqueductTanks();
        for (int tank = 0; tank < 10; tank++) {
            x.build(90 - 10 * tank, 20, 2);
        }
        int[] taps = new int[14];
        for (int pipe = 0; pipe < 14; pipe++) {
            x.lay(pipe % 9, pipe % 9 + 1, 20, 0);
        }
        x.steal(13, 9);
        taps[13] = 9;
        int foreseen = x.foresee(3, 0);
        CHECK.same("full: pass(3)", x.pass(3), foreseen);
        CHECK.same("full: the last one drinks, too: tank(9, 6)", x.tank(9, 6), 6);
        CHECK.same("full: suspect()", x.suspect(), 13);
        CHECK.same("full: count(6)", x.count(6), x.pipe(13, 7));
        CHECK.same("full: sated(9)", x.sated(9), 1);
        CHECK.same("full: advise(1)", x.advise(1), -1);
        CHECK.same("full: reach(0)", x.reach(0), 1022);
        CHECK.same("full: digest()", x.digest(), reckonedDigest(x, taps));
    }
}
