import java.util.ArrayList;
import java.util.List;
import java.util.Random;

/**
 * Long mixed runs against a second telling of the document, which keeps no times but the list of what
 * was heard, and works each answer out of that list.
 */
public final class ModelTest {
    private static final int RUNS = 3000;
    private static final int CALLS = 512;

    private record Heard(char kind, int a, int b, int bits, int time, boolean crowded) {}

    private static final class Model {
        private final int me;
        private int time = 0;
        private final List<Heard> heard = new ArrayList<>();

        Model(int me) {
            this.me = me < 0 ? 0 : me > 9 ? 9 : me;
        }

        boolean neighbour(int n) {
            for (Heard h : heard) {
                if (h.kind == 'h' && h.a == n && time < h.time + 65) {
                    return true;
                }
            }
            return false;
        }

        int neighbours(int from, int to) {
            int count = 0;
            for (int n = from; n < to; n++) {
                count += neighbour(n) ? 1 : 0;
            }
            return count;
        }

        boolean first() {
            return neighbours(me + 1, 10) == 0;
        }

        boolean asking() {
            return neighbours(0, me) == 0;
        }

        boolean crowded() {
            return neighbours(0, 10) > 1;
        }

        void hear(char kind, int a, int b, int bits) {
            heard.add(new Heard(kind, a, b, bits & 0xFFFF, time, crowded()));
        }

        /** The end, as it was told before the entry numbered upTo; leaves and prunes are kept only where they count. */
        int end(char begins, char ends, int a, int b, int upTo) {
            int till = 0;
            for (Heard h : heard.subList(0, upTo)) {
                if (h.a == a && h.b == b && h.kind == begins) {
                    till = h.time + (begins == 'r' ? 60 : 70);
                } else if (h.a == a && h.b == b && h.kind == ends) {
                    till = Math.min(till, h.time + (ends == 'l' ? 4 : h.crowded ? 3 : 0));
                }
            }
            return till;
        }

        int members(int g) {
            int till = end('r', 'l', g, 0, heard.size());
            return time < till ? till : 0;
        }

        int joined(int g, int s) {
            int till = end('j', 'p', g, s, heard.size());
            return time < till ? till : 0;
        }

        /** Goes back from the newest join for * to the oldest of those that told s without a break; -1 if not told. */
        int cutFrom(int g, int s) {
            if (joined(g, -1) == 0) {
                return -1;
            }
            int from = -1;
            for (int i = heard.size() - 1; i >= 0; i--) {
                Heard h = heard.get(i);
                if (h.kind != 'j' || h.a != g || h.b != -1) {
                    continue;
                }
                if ((h.bits >> s & 1) == 0) {
                    return from;
                }
                from = h.time + (h.crowded ? 3 : 0);
                if (h.time >= end('j', 'p', g, -1, i)) {
                    return from;
                }
            }
            return from;
        }

        int goes(int g) {
            int bits = 0;
            for (int s = 0; s < 16; s++) {
                int from = cutFrom(g, s);
                boolean byStar = joined(g, -1) != 0 && (from < 0 || time < from);
                boolean own = members(g) != 0 && first();
                bits |= byStar || joined(g, s) != 0 || own ? 1 << s : 0;
            }
            return bits;
        }

        int look(int what) {
            int sum = 0;
            switch (what) {
                case 0: return time;
                case 1:
                    for (int n = 0; n < 10; n++) {
                        sum |= neighbour(n) ? 1 << n : 0;
                    }
                    return sum;
                case 2: return first() ? 1 : 0;
                case 3: return asking() ? 1 : 0;
                case 4: return crowded() ? 1 : 0;
                case 5: return me;
                case 6:
                    for (int g = 0; g < 8; g++) {
                        sum |= goes(g) != 0 ? 1 << g : 0;
                    }
                    return sum;
                case 7:
                    for (int x = 0; x < 8 * 17; x++) {
                        sum += joined(x / 17, x % 17 - 1) != 0 ? 1 : 0;
                    }
                    return sum;
                default: return -1;
            }
        }

        /** One call of the face by its number, a boolean told as 1 or 0. */
        int call(int face, int a, int b, int bits) {
            boolean group = a >= 0 && a <= 7;
            boolean source = b >= 0 && b <= 15;
            boolean branch = group && (source || b == -1);
            switch (face) {
                case 0:
                    if (a < 1 || a > 100 || time + a > 100000) {
                        return -1;
                    }
                    return time += a;
                case 1: return hearIf(a >= 0 && a <= 9 && a != me, 'h', a, 0, 0);
                case 2: return hearIf(group, 'r', a, 0, 0);
                case 3: return hearIf(group && members(a) != 0 && asking(), 'l', a, 0, 0);
                case 4: return hearIf(branch, 'j', a, b, bits);
                case 5: return hearIf(branch && joined(a, b) != 0, 'p', a, b, 0);
                case 6:
                    heard.clear();
                    return 0;
                case 7: return branch ? joined(a, b) : -1;
                case 8: return group && source ? Math.max(0, cutFrom(a, b)) : -1;
                case 9: return group ? members(a) : -1;
                case 10: return group ? goes(a) : -1;
                default: return look(a);
            }
        }

        int hearIf(boolean taken, char kind, int a, int b, int bits) {
            if (taken) {
                hear(kind, a, b, bits);
            }
            return taken ? 1 : 0;
        }
    }

    private static int call(BranchTimes x, int face, int a, int b, int bits) {
        switch (face) {
            case 0: return x.tick(a);
            case 1: return x.hello(a) ? 1 : 0;
            case 2: return x.report(a) ? 1 : 0;
            case 3: return x.leave(a) ? 1 : 0;
            case 4: return x.join(a, b, bits) ? 1 : 0;
            case 5: return x.prune(a, b) ? 1 : 0;
            case 6:
                x.forget();
                return 0;
            case 7: return x.joined(a, b);
            case 8: return x.cut(a, b);
            case 9: return x.members(a);
            case 10: return x.goes(a);
            default: return x.look(a);
        }
    }

    // Narrow ranges make calls meet on the same group and source; the rest are edges and beyond.
    private static int pick(Random dice, int wide) {
        int kind = dice.nextInt(40);
        if (kind == 0) {
            return dice.nextInt();
        }
        return kind < 28 ? dice.nextInt(3) - (kind & 1) : dice.nextInt(wide + 3) - 1;
    }

    private static int pickTicks(Random dice) {
        int kind = dice.nextInt(30);
        return kind == 0 ? dice.nextInt(130) - 10 : kind < 3 ? 55 + dice.nextInt(16) : 1 + dice.nextInt(4);
    }

    private static int pickFace(Random dice) {
        int face = dice.nextInt(12);
        return face == 6 && dice.nextInt(12) != 0 ? 4 : face;
    }

    private static boolean runIsRight(int run) {
        Random dice = new Random(run);
        int me = dice.nextInt(14) - 2;
        BranchTimes x = new BranchTimes(me);
        Model model = new Model(me);
        for (int i = 0; i < CALLS; i++) {
            int face = pickFace(dice);
            int a = face == 0 ? pickTicks(dice) : face == 1 ? dice.nextInt(12) - 1
                    : face == 11 ? dice.nextInt(10) - 1 : pick(dice, 8);
            int b = pick(dice, 16);
            int bits = dice.nextInt(3) == 0 ? dice.nextInt() : dice.nextInt(16);
            int want = model.call(face, a, b, bits);
            int got = call(x, face, a, b, bits);
            if (got != want) {
                System.out.println("run " + run + ", call " + i + ", face " + face + " (" + a + ", " + b + ", "
                        + bits + ") answered " + got + ", due is " + want);
                return false;
            }
        }
        return true;
    }

    public static void main(String[] args) {
        int wrong = 0;
        for (int run = 0; run < RUNS; run++) {
            wrong += runIsRight(run) ? 0 : 1;
        }
        System.out.println(wrong == 0 ? "model: all runs as due" : wrong + " runs are not as due");
        if (wrong != 0) {
            System.exit(1);
        }
    }
}
