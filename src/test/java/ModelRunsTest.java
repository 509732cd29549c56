import java.util.ArrayList;
import java.util.List;
import java.util.Random;

/** Long runs of calls, drawn with fixed seeds, beside a plain model that is written from the document's words. */
public final class ModelRunsTest {
    private static final int RUNS = 300;
    private static final int CALLS = 512;
    private static final int[] WILD = {Integer.MIN_VALUE, Integer.MIN_VALUE + 1, -101, -1, 10, 14, 21, 61, 100, 101,
        1 << 30, Integer.MAX_VALUE};

    private static final class Tank {
        int height;
        int spring;
        int thirst;
        int water;
        int mud;
        int drunk;
        int drunkAll;
        int spilledAll;

        void come(int amount) {
            for (int i = 0; i < amount; i++) {
                if (water == 200) {
                    spilledAll++;
                } else {
                    water++;
                }
            }
        }
    }

    private static final class Pipe {
        int from;
        int to;
        int width;
        int dip;
        int crust;
        int tap;
        int flowed;
        int lost;
        int lostAll;
    }

    private static final class Model {
        final List<Tank> tanks = new ArrayList<>();
        final List<Pipe> pipes = new ArrayList<>();
        int day;

        Model twin() {
            Model twin = new Model();
            twin.day = day;
            for (Tank t : tanks) {
                Tank u = new Tank();
                u.height = t.height;
                u.spring = t.spring;
                u.thirst = t.thirst;
                u.water = t.water;
                u.mud = t.mud;
                u.drunk = t.drunk;
                u.drunkAll = t.drunkAll;
                u.spilledAll = t.spilledAll;
                twin.tanks.add(u);
            }
            for (Pipe p : pipes) {
                Pipe q = new Pipe();
                q.from = p.from;
                q.to = p.to;
                q.width = p.width;
                q.dip = p.dip;
                q.crust = p.crust;
                q.tap = p.tap;
                q.flowed = p.flowed;
                q.lost = p.lost;
                q.lostAll = p.lostAll;
                twin.pipes.add(q);
            }
            return twin;
        }

        int canFlow(Pipe p) {
            Tank a = tanks.get(p.from);
            Tank b = tanks.get(p.to);
            int higher = (10 * a.height + a.water) - (10 * b.height + b.water);
            if (higher < p.dip || higher <= 0) {
                return 0;
            }
            int flow = p.width > p.crust ? p.width - p.crust : 0;
            if (flow > higher / 10 + 1) {
                flow = higher / 10 + 1;
            }
            return flow > a.water ? a.water : flow;
        }

        void live() {
            for (Tank t : tanks) {
                t.come(t.spring);
                t.mud += t.spring / 4;
                t.mud = t.mud > 99 ? 99 : t.mud;
            }
            for (Pipe p : pipes) {
                Tank a = tanks.get(p.from);
                Tank b = tanks.get(p.to);
                p.flowed = canFlow(p);
                p.lost = p.tap > p.flowed ? p.flowed : p.tap;
                p.lostAll += p.lost;
                int mud = p.flowed == 0 ? 0 : a.mud * p.flowed / a.water;
                a.mud -= mud;
                b.mud = b.mud + mud > 99 ? 99 : b.mud + mud;
                a.water -= p.flowed;
                b.come(p.flowed - p.lost);
            }
            if (day % 4 == 0) {
                for (Pipe p : pipes) {
                    if (p.flowed > 0 && p.crust < 20) {
                        p.crust++;
                    }
                }
            }
            for (Tank t : tanks) {
                t.drunk = t.mud >= 50 ? t.thirst / 2 : t.thirst;
                t.drunk = t.drunk > t.water ? t.water : t.drunk;
                t.water -= t.drunk;
                t.drunkAll += t.drunk;
            }
            day++;
        }

        int live(int days) {
            int before = count(5);
            for (int i = 0; i < days; i++) {
                live();
            }
            return count(5) - before;
        }

        int tank(int number, int what) {
            Tank t = tanks.get(number);
            return new int[] {t.height, t.spring, t.thirst, t.water, t.mud, t.drunk, t.drunkAll, t.spilledAll}[what];
        }

        int pipe(int number, int what) {
            Pipe p = pipes.get(number);
            return new int[] {p.from, p.to, p.width, p.dip, p.crust, p.flowed, p.lost, p.lostAll, canFlow(p)}[what];
        }

        int count(int what) {
            int[] told = new int[9];
            told[0] = day;
            told[1] = tanks.size();
            told[2] = pipes.size();
            for (Tank t : tanks) {
                told[3] += t.water;
                told[4] += t.mud;
                told[5] += t.drunkAll;
                told[7] += t.spilledAll;
                told[8] += t.drunk < t.thirst ? 1 : 0;
            }
            for (Pipe p : pipes) {
                told[6] += p.lostAll;
            }
            return told[what];
        }

        void wander(int tank, boolean[] seen) {
            for (Pipe p : pipes) {
                if (p.from == tank && !seen[p.to]) {
                    seen[p.to] = true;
                    wander(p.to, seen);
                }
            }
        }

        int reach(int tank) {
            boolean[] seen = new boolean[10];
            wander(tank, seen);
            int set = 0;
            for (int i = 0; i < 10; i++) {
                set += seen[i] ? 1 << i : 0;
            }
            return set;
        }

        int suspect() {
            int best = -1;
            for (int i = pipes.size() - 1; i >= 0; i--) {
                if (pipes.get(i).lost > 0 && (best < 0 || pipes.get(i).lost >= pipes.get(best).lost)) {
                    best = i;
                }
            }
            return best;
        }

        int foresee(int days, int what) {
            Model twin = twin();
            int drunk = twin.live(days);
            int crust = 0;
            for (Pipe p : twin.pipes) {
                crust += p.crust;
            }
            return new int[] {drunk, twin.count(6) - count(6), twin.count(3), crust}[what];
        }

        int advise(int days) {
            int[] drunk = new int[pipes.size()];
            int most = twin().live(days);
            int idle = most;
            for (int i = 0; i < drunk.length; i++) {
                Model twin = twin();
                twin.pipes.get(i).crust = 0;
                drunk[i] = twin.live(days);
                most = Math.max(most, drunk[i]);
            }
            for (int i = 0; i < drunk.length; i++) {
                if (drunk[i] == most && most > idle) {
                    return i;
                }
            }
            return -1;
        }

        int sated(int tank) {
            Model twin = twin();
            for (int days = 1; days <= 100; days++) {
                twin.live();
                if (twin.tanks.get(tank).drunk == twin.tanks.get(tank).thirst) {
                    return days;
                }
            }
            return -1;
        }

        long digest() {
            long d = 1031;
            for (int what = 0; what < 9; what++) {
                d = d * 31 + count(what);
            }
            for (int i = 0; i < tanks.size(); i++) {
                for (int what = 0; what < 8; what++) {
                    d = d * 31 + tank(i, what);
                }
            }
            for (int i = 0; i < pipes.size(); i++) {
                for (int what = 0; what < 9; what++) {
                    d = d * 31 + pipe(i, what);
                }
                d = d * 31 + pipes.get(i).tap;
            }
            return d;
        }

        // ---- the calls, with their refusals in the order of the document

        private void index(boolean there) {
            if (!there) {
                throw new IndexOutOfBoundsException();
            }
        }

        private void argument(boolean allowed) {
            if (!allowed) {
                throw new IllegalArgumentException();
            }
        }

        private void hasTank(int tank) {
            index(tank >= 0 && tank < tanks.size());
        }

        private void hasPipe(int pipe) {
            index(pipe >= 0 && pipe < pipes.size());
        }

        private void range(int x, int least, int most) {
            argument(x >= least && x <= most);
        }

        private void what(int x, int most) {
            index(x >= 0 && x <= most);
        }

        double call(int kind, int[] a) {
            switch (kind) {
                case 0:
                    range(a[0], 0, 99);
                    range(a[1], 0, 20);
                    range(a[2], 0, 20);
                    if (tanks.size() == 10) {
                        throw new IllegalStateException();
                    }
                    Tank t = new Tank();
                    t.height = a[0];
                    t.spring = a[1];
                    t.thirst = a[2];
                    tanks.add(t);
                    return tanks.size() - 1;
                case 1:
                    hasTank(a[0]);
                    hasTank(a[1]);
                    argument(a[0] != a[1]);
                    range(a[2], 1, 20);
                    range(a[3], 0, 60);
                    if (pipes.size() == 14) {
                        throw new IllegalStateException();
                    }
                    Pipe p = new Pipe();
                    p.from = a[0];
                    p.to = a[1];
                    p.width = a[2];
                    p.dip = a[3];
                    pipes.add(p);
                    return pipes.size() - 1;
                case 2:
                    hasTank(a[0]);
                    range(a[1], 0, 20);
                    range(a[2], 0, 20);
                    Tank s = tanks.get(a[0]);
                    int both = 100 * s.spring + s.thirst;
                    s.spring = a[1];
                    s.thirst = a[2];
                    return both;
                case 3:
                    hasTank(a[0]);
                    Tank f = tanks.get(a[0]);
                    int mud = f.mud;
                    f.mud = 0;
                    f.water /= 2;
                    return mud;
                case 4:
                    hasPipe(a[0]);
                    int crust = pipes.get(a[0]).crust;
                    pipes.get(a[0]).crust = 0;
                    return crust;
                case 5:
                    hasPipe(a[0]);
                    range(a[1], 0, 9);
                    int tap = pipes.get(a[0]).tap;
                    pipes.get(a[0]).tap = a[1];
                    return tap;
                default:
                    return ask(kind, a);
            }
        }

        private double ask(int kind, int[] a) {
            switch (kind) {
                case 6:
                    hasTank(a[0]);
                    what(a[1], 7);
                    return tank(a[0], a[1]);
                case 7:
                    hasPipe(a[0]);
                    what(a[1], 8);
                    return pipe(a[0], a[1]);
                case 8:
                    what(a[0], 8);
                    return count(a[0]);
                case 9:
                    hasTank(a[0]);
                    return reach(a[0]);
                case 10:
                    return suspect();
                case 11:
                    range(a[0], 1, 100);
                    return live(a[0]);
                case 12:
                    range(a[0], 1, 100);
                    what(a[1], 3);
                    return foresee(a[0], a[1]);
                case 13:
                    range(a[0], 1, 60);
                    return advise(a[0]);
                case 14:
                    hasTank(a[0]);
                    return sated(a[0]);
                default:
                    return day == 0 ? 0 : 1.0 * count(5) / day;
            }
        }
    }

    private static final String[] NAMES = {"build", "lay", "set", "flush", "scrape", "steal", "tank", "pipe", "count",
        "reach", "suspect", "pass", "foresee", "advise", "sated", "mean"};
    private static final int[] ARGUMENTS = {3, 4, 3, 1, 1, 2, 2, 2, 1, 1, 0, 1, 2, 1, 1, 0};

    private static double call(AqueductTanks x, int kind, int[] a) {
        switch (kind) {
            case 0: return x.build(a[0], a[1], a[2]);
            case 1: return x.lay(a[0], a[1], a[2], a[3]);
            case 2: return x.set(a[0], a[1], a[2]);
            case 3: return x.flush(a[0]);
            case 4: return x.scrape(a[0]);
            case 5: return x.steal(a[0], a[1]);
            case 6: return x.tank(a[0], a[1]);
            case 7: return x.pipe(a[0], a[1]);
            case 8: return x.count(a[0]);
            case 9: return x.reach(a[0]);
            case 10: return x.suspect();
            case 11: return x.pass(a[0]);
            case 12: return x.foresee(a[0], a[1]);
            case 13: return x.advise(a[0]);
            case 14: return x.sated(a[0]);
            default: return x.mean();
        }
    }

    // ---- what is drawn

    /** The most that is allowed, argument by argument; the least is 0, and now and then what is drawn is not allowed. */
    private static int[] most(int kind, int tanks, int pipes) {
        switch (kind) {
            case 0: return new int[] {99, 20, 20};
            case 1: return new int[] {tanks - 1, tanks - 1, 20, 60};
            case 2: return new int[] {tanks - 1, 20, 20};
            case 5: return new int[] {pipes - 1, 9};
            case 6: return new int[] {tanks - 1, 7};
            case 7: return new int[] {pipes - 1, 8};
            case 8: return new int[] {8};
            case 11: return new int[] {100};
            case 12: return new int[] {100, 3};
            case 13: return new int[] {60};
            case 4: return new int[] {pipes - 1};
            default: return new int[] {tanks - 1};
        }
    }

    private static int[] drawArguments(Random random, int kind, Model model) {
        int[] a = new int[ARGUMENTS[kind]];
        if (a.length == 0) {
            return a;
        }
        int[] most = most(kind, model.tanks.size(), model.pipes.size());
        for (int i = 0; i < a.length; i++) {
            int way = random.nextInt(40);
            if (way == 0) {
                a[i] = WILD[random.nextInt(WILD.length)];
            } else if (way < 4) {
                a[i] = most[i] + random.nextInt(2);
            } else if (way < 6) {
                a[i] = random.nextInt(2) - 1;
            } else {
                a[i] = most[i] < 1 ? 0 : random.nextInt(most[i] + 1);
            }
        }
        if (kind == 11 && random.nextInt(3) != 0) {
            a[0] = 1 + random.nextInt(5);
        }
        if (kind == 0 && a[0] > 12 && a[0] < 100 && random.nextInt(4) != 0) {
            // Tanks of nearly one height, so that dips and small differences matter.
            a[0] = a[0] % 12;
        }
        return a;
    }

    private static int drawKind(Random random, int made) {
        if (made < 30 && random.nextInt(3) != 0) {
            return random.nextInt(2);
        }
        int kind = random.nextInt(20);
        return kind < 16 ? kind : 11;
    }

    private static String told(int kind, int[] a) {
        StringBuilder text = new StringBuilder(NAMES[kind]).append('(');
        for (int i = 0; i < a.length; i++) {
            text.append(i == 0 ? "" : ", ").append(a[i]);
        }
        return text.append(')').toString();
    }

    private static void sameCall(Check check, String name, AqueductTanks x, Model model, int kind, int[] a) {
        double due = 0;
        Class<?> refusal = null;
        try {
            due = model.call(kind, a);
        } catch (RuntimeException e) {
            refusal = e.getClass();
        }
        if (refusal != null) {
            check.refused(name, refusal, () -> call(x, kind, a));
        } else {
            check.sameDouble(name, call(x, kind, a), due);
        }
        check.same(name + ", then digest()", x.digest(), model.digest());
    }

    public static void main(String[] args) {
        Check check = new Check();
        for (int run = 0; run < RUNS; run++) {
            Random random = new Random(9000L + run);
            AqueductTanks x = new AqueductTanks();
            Model model = new Model();
            // Each drawn call is followed by a digest(), and an object answers 512 calls.
            for (int made = 0; made < CALLS / 2; made++) {
                int kind = drawKind(random, made);
                int[] a = drawArguments(random, kind, model);
                sameCall(check, "run " + run + ", call " + made + ": " + told(kind, a), x, model, kind, a);
            }
        }
        check.end();
    }
}
