/** The answers that README.md tells beside its example, worked out by hand. */
public final class ReadmeTest {
    public static void main(String[] args) {
        Check check = new Check();
        check.run(() -> example(check));
        check.end();
    }

    private static void example(Check check) {
        AqueductTanks land = new AqueductTanks();
        int spring = land.build(50, 15, 0);
        check.same("build(50, 15, 0)", spring, 0);
        int town = land.build(45, 0, 3);
        check.same("build(45, 0, 3)", town, 1);
        int pipe = land.lay(spring, town, 10, 0);
        check.same("lay(spring, town, 10, 0)", pipe, 0);
        // 7, 7, 8, 8 and 8 come to the town.
        check.same("pass(5)", land.pass(5), 15);
        check.same("tank(town, 3)", land.tank(town, 3), 23);
        // The heads differ by 64; 2 crust leaves 8 of the width; 7 is a tenth and 1.
        check.same("pipe(pipe, 8)", land.pipe(pipe, 8), 7);
        check.same("foresee(20, 0)", land.foresee(20, 0), 60);
        check.same("advise(20)", land.advise(20), -1);
        check.sameDouble("mean()", land.mean(), 3.0);
    }
}
