/** Each promise of the document by ordinary inputs, its edges and wrong inputs. */
public final class PromisesTest {
    private static final int NONE = BranchTimes.NONE;
    private static final int ALL = 0xFFFF;
    private static final int[] NO_GROUPS = {-1, -2, 8, 9, Integer.MIN_VALUE, Integer.MAX_VALUE};
    private static final int[] NO_SOURCES = {-2, 16, 17, Integer.MIN_VALUE, Integer.MAX_VALUE};
    private static int wrong = 0;

    public static void main(String[] args) {
        newObject();
        tick();
        hello();
        firstAskingCrowded();
        report();
        leave();
        joinForSource();
        joinForStar();
        cutsOfRepeatedJoins();
        cutsOnCrowdedPort();
        cutsAfterBreak();
        prune();
        pruneOnCrowdedPort();
        forget();
        joined();
        cut();
        members();
        goes();
        look();
        refusedCallsChangeNothing();
        objectsAreApart();
        System.out.println(wrong == 0 ? "promises: all as due" : wrong + " answers are not as due");
        if (wrong != 0) {
            System.exit(1);
        }
    }

    private static void due(String what, long got, long want) {
        if (got != want) {
            wrong++;
            System.out.println(what + " answered " + got + ", due is " + want);
        }
    }

    private static void due(String what, boolean got, boolean want) {
        due(what, got ? 1 : 0, want ? 1 : 0);
    }

    private static BranchTimes at(int me, int time) {
        BranchTimes x = new BranchTimes(me);
        pass(x, time);
        return x;
    }

    private static void pass(BranchTimes x, int ticks) {
        for (int left = ticks; left > 0; left -= Math.min(left, 100)) {
            x.tick(Math.min(left, 100));
        }
    }

    private static void crowd(BranchTimes x) {
        x.hello(1);
        x.hello(2);
    }

    private static void newObject() {
        for (int me = 0; me <= 9; me++) {
            due("1: me " + me, new BranchTimes(me).look(5), me);
        }
        due("1: me -1", new BranchTimes(-1).look(5), 0);
        due("1: me 10", new BranchTimes(10).look(5), 9);
        due("1: least me", new BranchTimes(Integer.MIN_VALUE).look(5), 0);
        due("1: greatest me", new BranchTimes(Integer.MAX_VALUE).look(5), 9);
        nothingHeard("1: new", new BranchTimes(4), 0);
    }

    private static void nothingHeard(String what, BranchTimes x, int time) {
        due(what + " time", x.look(0), time);
        due(what + " neighbours", x.look(1), 0);
        due(what + " first", x.look(2), 1);
        due(what + " asking", x.look(3), 1);
        due(what + " crowded", x.look(4), 0);
        due(what + " groups that go", x.look(6), 0);
        due(what + " branches", x.look(7), 0);
        for (int g = 0; g < 8; g++) {
            due(what + " members", x.members(g), 0);
            due(what + " goes", x.goes(g), 0);
            due(what + " joined *", x.joined(g, NONE), 0);
            for (int s = 0; s < 16; s++) {
                due(what + " joined", x.joined(g, s), 0);
                due(what + " cut", x.cut(g, s), 0);
            }
        }
    }

    private static void tick() {
        BranchTimes x = new BranchTimes(0);
        due("2: tick 1", x.tick(1), 1);
        due("2: tick 100", x.tick(100), 101);
        for (int n : new int[] {0, -1, 101, Integer.MIN_VALUE, Integer.MAX_VALUE}) {
            due("2: tick " + n, x.tick(n), NONE);
            due("2: time after tick " + n, x.look(0), 101);
        }
        // Further than an object's 512 calls reach, but the words stand in the promise.
        BranchTimes late = at(0, 99950);
        due("2: over the end", late.tick(51), NONE);
        due("2: to the end", late.tick(50), 100000);
        due("2: at the end", late.tick(1), NONE);
        due("2: time at the end", late.look(0), 100000);
    }

    private static void hello() {
        BranchTimes x = at(4, 10);
        due("3: of me", x.hello(4), false);
        for (int n : new int[] {-1, 10, Integer.MIN_VALUE, Integer.MAX_VALUE, 32, 33}) {
            due("3: of " + n, x.hello(n), false);
        }
        due("3: none heard", x.look(1), 0);
        due("3: of 0", x.hello(0), true);
        due("3: of 9", x.hello(9), true);
        due("3: heard", x.look(1), 1 | 1 << 9);
        pass(x, 30);
        due("3: of 0 again", x.hello(0), true);
        pass(x, 34);
        due("3: 64 later", x.look(1), 1 | 1 << 9);
        pass(x, 1);
        due("3: 65 later", x.look(1), 1);
        pass(x, 29);
        due("3: 64 after the second", x.look(1), 1);
        pass(x, 1);
        due("3: 65 after the second", x.look(1), 0);
    }

    private static void firstAskingCrowded() {
        for (int me = 0; me <= 9; me++) {
            for (int n = 0; n <= 9; n++) {
                BranchTimes x = new BranchTimes(me);
                x.hello(n);
                due("13: first, " + me + " by " + n, x.look(2), n > me ? 0 : 1);
                due("13: asking, " + me + " by " + n, x.look(3), n < me ? 0 : 1);
                due("13: crowded by one", x.look(4), 0);
                x.hello(n);
                due("13: crowded by one twice", x.look(4), 0);
            }
        }
        BranchTimes x = new BranchTimes(5);
        x.hello(1);
        pass(x, 1);
        x.hello(8);
        due("13: crowded by two", x.look(4), 1);
        x.hello(9);
        due("13: crowded by three", x.look(4), 1);
        pass(x, 64);
        due("13: one of three gone", x.look(4), 1);
        due("13: asking as the lesser is gone", x.look(3), 1);
        due("13: not first as the greater stay", x.look(2), 0);
        pass(x, 1);
        due("13: all gone", x.look(4), 0);
        due("13: first again", x.look(2), 1);
    }

    private static void report() {
        BranchTimes x = at(0, 5);
        due("4: group 0", x.report(0), true);
        due("4: group 7", x.report(7), true);
        due("4: members of 0", x.members(0), 65);
        due("4: members of 7", x.members(7), 65);
        due("4: members of 1", x.members(1), 0);
        for (int g : NO_GROUPS) {
            due("4: group " + g, x.report(g), false);
        }
        pass(x, 20);
        due("4: again", x.report(0), true);
        due("4: members renewed", x.members(0), 85);
        x.leave(0);
        due("4: after leave", x.report(0), true);
        due("4: leave undone", x.members(0), 85);
    }

    private static void leave() {
        BranchTimes x = at(3, 5);
        due("5: without members", x.leave(2), false);
        due("5: still none", x.members(2), 0);
        x.report(2);
        x.report(3);
        x.hello(2);
        due("5: not asking", x.leave(2), false);
        due("5: members stay", x.members(2), 65);
        pass(x, 58);
        due("5: not asking yet", x.leave(2), false);
        x.forget();
        x.report(2);
        x.hello(8);
        due("5: asking by a greater neighbour", x.leave(2), true);
        due("5: ends in 4", x.members(2), 67);
        pass(x, 1);
        due("5: again", x.leave(2), true);
        due("5: not put off", x.members(2), 67);
        pass(x, 2);
        due("5: just before the end", x.members(2), 67);
        due("5: leave just before the end", x.leave(2), true);
        pass(x, 1);
        due("5: the end", x.members(2), 0);
        due("5: leave at the end", x.leave(2), false);
        for (int g : NO_GROUPS) {
            due("5: group " + g, x.leave(g), false);
        }
        BranchTimes y = new BranchTimes(0);
        y.report(1);
        pass(y, 58);
        due("5: late", y.leave(1), true);
        due("5: the earlier end stays", y.members(1), 60);
    }

    private static void joinForSource() {
        BranchTimes x = at(0, 7);
        due("6: source 0", x.join(0, 0, 0), true);
        due("6: source 15 of 7", x.join(7, 15, -1), true);
        due("6: till", x.joined(0, 0), 77);
        due("6: till of 15", x.joined(7, 15), 77);
        due("6: other source", x.joined(0, 1), 0);
        due("6: other group", x.joined(1, 0), 0);
        due("6: not for *", x.joined(7, NONE), 0);
        due("6: bits do nothing for a source", x.cut(7, 3), 0);
        due("6: goes", x.goes(0), 1);
        due("6: goes 15", x.goes(7), 1 << 15);
        pass(x, 20);
        due("6: again", x.join(0, 0, 0), true);
        due("6: renewed", x.joined(0, 0), 97);
        for (int g : NO_GROUPS) {
            due("6: group " + g, x.join(g, 0, 0), false);
            due("6: * of group " + g, x.join(g, NONE, 0), false);
        }
        for (int s : NO_SOURCES) {
            due("6: source " + s, x.join(0, s, 0), false);
        }
        due("6: branches", x.look(7), 2);
    }

    private static void joinForStar() {
        BranchTimes x = at(0, 7);
        due("6: *", x.join(3, NONE, 0xABCD8001), true);
        due("6: till of *", x.joined(3, NONE), 77);
        due("6: no source", x.joined(3, 0), 0);
        due("6: lowest bit", x.cut(3, 0), 7);
        due("6: highest bit", x.cut(3, 15), 7);
        due("6: not told", x.cut(3, 1), 0);
        due("6: goes at once", x.goes(3), ALL & ~0x8001);
        due("6: other group", x.cut(2, 0), 0);
        x.join(4, NONE, 0xFFFF0000);
        due("6: higher bits count for nothing", x.goes(4), ALL);
        x.join(5, NONE, -1);
        due("6: all cut", x.goes(5), 0);
        x.join(3, 5, 0xFFFF);
        due("6: a join for a source leaves the cuts", x.goes(3), ALL & ~0x8001);
    }

    private static void cutsOfRepeatedJoins() {
        BranchTimes x = at(0, 5);
        x.join(0, NONE, 0b0011);
        pass(x, 10);
        x.join(0, NONE, 0b0110);
        due("6: no more", x.cut(0, 0), 0);
        due("6: told without a break", x.cut(0, 1), 5);
        due("6: told anew", x.cut(0, 2), 15);
        due("6: goes", x.goes(0), ALL & ~0b0110);
        pass(x, 10);
        x.join(0, NONE, 0b0111);
        due("6: told after a break", x.cut(0, 0), 25);
        due("6: told by all three", x.cut(0, 1), 5);
        due("6: told by two", x.cut(0, 2), 15);
        pass(x, 69);
        x.join(0, NONE, 0b0010);
        due("6: in the last time", x.cut(0, 1), 5);
        due("6: renewed", x.joined(0, NONE), 164);
    }

    private static void cutsOnCrowdedPort() {
        BranchTimes x = at(0, 5);
        x.join(0, NONE, 0b0001);
        crowd(x);
        x.join(0, NONE, 0b0011);
        due("6: crowded, told ahead", x.cut(0, 0), 5);
        due("6: crowded, told anew", x.cut(0, 1), 8);
        due("6: not cut yet", x.goes(0), ALL & ~0b0001);
        pass(x, 2);
        x.join(0, NONE, 0b0011);
        due("6: not put off", x.cut(0, 1), 8);
        due("6: still not cut", x.goes(0), ALL & ~0b0001);
        pass(x, 1);
        due("6: cut in time", x.goes(0), ALL & ~0b0011);
        BranchTimes y = at(0, 5);
        y.hello(1);
        y.join(0, NONE, 1);
        due("6: one neighbour is no crowd", y.cut(0, 0), 5);
        y.hello(2);
        y.join(0, NONE, 1);
        due("6: a later crowd changes nothing", y.cut(0, 0), 5);
        BranchTimes z = at(0, 5);
        crowd(z);
        pass(z, 64);
        z.join(0, NONE, 1);
        pass(z, 1);
        z.join(0, NONE, 3);
        due("6: no crowd, told anew", z.cut(0, 1), 70);
        due("6: crowded then", z.cut(0, 0), 72);
        due("6: the one waits, the other is cut", z.goes(0), ALL & ~0b0010);
    }

    private static void cutsAfterBreak() {
        BranchTimes x = at(0, 5);
        x.join(0, NONE, 0b0001);
        pass(x, 70);
        due("6: lapsed", x.cut(0, 0), 0);
        x.join(0, NONE, 0b0001);
        due("6: told anew after the lapse", x.cut(0, 0), 75);
        pass(x, 4);
        x.prune(0, NONE);
        due("6: pruned", x.cut(0, 0), 0);
        x.join(0, NONE, 0b0001);
        due("6: told anew after the prune", x.cut(0, 0), 79);
        pass(x, 2);
        crowd(x);
        x.prune(0, NONE);
        due("6: pruned but joined still", x.cut(0, 0), 79);
        pass(x, 2);
        x.join(0, NONE, 0b0001);
        due("6: joined again in time", x.cut(0, 0), 79);
        x.prune(0, NONE);
        pass(x, 3);
        x.join(0, NONE, 0b0001);
        due("6: joined again too late", x.cut(0, 0), 89);
        x.forget();
        x.join(0, NONE, 0b0001);
        due("6: after forget", x.cut(0, 0), 86);
    }

    private static void prune() {
        BranchTimes x = at(0, 9);
        due("7: not joined", x.prune(0, 0), false);
        due("7: * not joined", x.prune(0, NONE), false);
        x.join(0, 0, 0);
        x.join(0, 1, 0);
        x.join(1, 0, 0);
        x.join(0, NONE, 0);
        x.hello(1);
        due("7: joined", x.prune(0, 0), true);
        due("7: at once", x.joined(0, 0), 0);
        due("7: twice", x.prune(0, 0), false);
        due("7: other source", x.joined(0, 1), 79);
        due("7: other group", x.joined(1, 0), 79);
        due("7: * stays", x.joined(0, NONE), 79);
        due("7: *", x.prune(0, NONE), true);
        due("7: * at once", x.joined(0, NONE), 0);
        due("7: source stays", x.joined(0, 1), 79);
        for (int g : NO_GROUPS) {
            due("7: group " + g, x.prune(g, 0), false);
            due("7: * of group " + g, x.prune(g, NONE), false);
        }
        for (int s : NO_SOURCES) {
            due("7: source " + s, x.prune(0, s), false);
        }
        pass(x, 69);
        due("7: in the last time", x.prune(0, 1), true);
        pass(x, 1);
        due("7: lapsed", x.prune(1, 0), false);
    }

    private static void pruneOnCrowdedPort() {
        BranchTimes x = at(0, 9);
        crowd(x);
        x.join(0, 0, 0);
        x.join(0, NONE, 0);
        due("7: crowded", x.prune(0, 0), true);
        due("7: in 3", x.joined(0, 0), 12);
        pass(x, 2);
        due("7: crowded again", x.prune(0, 0), true);
        due("7: not put off", x.joined(0, 0), 12);
        x.prune(0, NONE);
        due("7: * in 3", x.joined(0, NONE), 14);
        x.join(0, NONE, 0);
        due("7: a join undoes it", x.joined(0, NONE), 81);
        pass(x, 1);
        due("7: over", x.joined(0, 0), 0);
        due("7: prune when over", x.prune(0, 0), false);
        BranchTimes y = at(0, 0);
        y.join(0, 0, 0);
        pass(y, 68);
        crowd(y);
        due("7: near the end", y.prune(0, 0), true);
        due("7: the earlier end stays", y.joined(0, 0), 70);
    }

    private static void forget() {
        BranchTimes x = at(4, 33);
        x.hello(1);
        x.hello(8);
        for (int g = 0; g < 8; g++) {
            x.report(g);
            x.join(g, NONE, 0b1010);
            x.join(g, 15 - g, 0);
        }
        x.forget();
        nothingHeard("8: forgotten", x, 33);
        due("8: me stays", x.look(5), 4);
        x.join(0, NONE, 0);
        due("8: cuts are forgotten", x.goes(0), ALL);
    }

    private static void joined() {
        BranchTimes x = new BranchTimes(0);
        x.join(6, 15, 0);
        x.join(7, NONE, 0);
        pass(x, 69);
        due("9: 69 later", x.joined(6, 15), 70);
        due("9: * 69 later", x.joined(7, NONE), 70);
        due("9: next place is free", x.joined(6, NONE), 0);
        due("9: place ahead is free", x.joined(7, 15), 0);
        pass(x, 1);
        due("9: 70 later", x.joined(6, 15), 0);
        due("9: * 70 later", x.joined(7, NONE), 0);
        for (int g : NO_GROUPS) {
            due("9: group " + g, x.joined(g, 0), NONE);
            due("9: * of group " + g, x.joined(g, NONE), NONE);
        }
        for (int s : NO_SOURCES) {
            due("9: source " + s, x.joined(0, s), NONE);
        }
    }

    private static void cut() {
        BranchTimes x = at(0, 2);
        crowd(x);
        x.join(1, NONE, 0b100);
        due("10: will be", x.cut(1, 2), 5);
        pass(x, 10);
        due("10: is", x.cut(1, 2), 5);
        due("10: not told", x.cut(1, 3), 0);
        x.join(1, 2, 0);
        due("10: joined for the source", x.cut(1, 2), 5);
        due("10: but it goes", x.goes(1), ALL);
        pass(x, 59);
        due("10: just before the end of *", x.cut(1, 2), 5);
        pass(x, 1);
        due("10: * over", x.cut(1, 2), 0);
        for (int g : NO_GROUPS) {
            due("10: group " + g, x.cut(g, 0), NONE);
        }
        for (int s : NO_SOURCES) {
            due("10: source " + s, x.cut(0, s), NONE);
        }
        due("10: * is no source", x.cut(0, NONE), NONE);
    }

    private static void members() {
        BranchTimes x = new BranchTimes(0);
        x.report(3);
        due("11: at once", x.members(3), 60);
        pass(x, 59);
        due("11: 59 later", x.members(3), 60);
        pass(x, 1);
        due("11: 60 later", x.members(3), 0);
        for (int g : NO_GROUPS) {
            due("11: group " + g, x.members(g), NONE);
        }
    }

    private static void goes() {
        BranchTimes x = at(5, 1);
        x.report(2);
        due("12: own", x.goes(2), ALL);
        x.hello(1);
        due("12: own by a lesser neighbour", x.goes(2), ALL);
        x.hello(6);
        due("12: not first", x.goes(2), 0);
        x.join(2, 9, 0);
        due("12: joined though not own", x.goes(2), 1 << 9);
        x.join(2, NONE, 0b11);
        due("12: * with cuts to come", x.goes(2), ALL);
        pass(x, 3);
        due("12: * with cuts", x.goes(2), ALL & ~0b11);
        x.join(2, 1, 0);
        due("12: cut but joined", x.goes(2), ALL & ~0b01);
        x.forget();
        x.join(2, NONE, ALL);
        due("12: all cut", x.goes(2), 0);
        x.report(2);
        due("12: own outdoes cuts", x.goes(2), ALL);
        pass(x, 60);
        due("12: no more own", x.goes(2), 0);
        for (int g : NO_GROUPS) {
            due("12: group " + g, x.goes(g), NONE);
        }
    }

    private static void look() {
        BranchTimes x = at(5, 1);
        x.report(0);
        x.join(1, 3, 0);
        x.join(2, NONE, ALL);
        x.join(7, NONE, ALL - 1);
        x.join(7, 0, 0);
        due("13: time", x.look(0), 1);
        due("13: me", x.look(5), 5);
        due("13: groups", x.look(6), 1 | 1 << 1 | 1 << 7);
        due("13: branches", x.look(7), 4);
        x.hello(9);
        due("13: groups, not first", x.look(6), 1 << 1 | 1 << 7);
        x.prune(7, 0);
        due("13: branches after a prune", x.look(7), 3);
        for (int what : new int[] {-1, 8, Integer.MIN_VALUE, Integer.MAX_VALUE}) {
            due("13: what " + what, x.look(what), NONE);
        }
        for (int g = 0; g < 8; g++) {
            for (int s = NONE; s < 16; s++) {
                x.join(g, s, 0);
            }
        }
        due("13: all groups", x.look(6), 255);
        due("13: all branches", x.look(7), 8 * 17);
        pass(x, 70);
        due("13: no branches", x.look(7), 0);
        due("13: no groups", x.look(6), 0);
    }

    private static void refusedCallsChangeNothing() {
        BranchTimes x = at(5, 1);
        for (int odd : new int[] {-2, 16, 17, 100, Integer.MIN_VALUE, Integer.MAX_VALUE}) {
            x.hello(odd);
            x.report(odd);
            x.leave(odd);
            x.join(odd, odd, -1);
            x.join(odd, NONE, -1);
            x.join(0, odd, -1);
            x.prune(odd, odd);
        }
        x.report(-1);
        x.report(8);
        x.join(-1, 15, 0);
        x.join(8, 0, 0);
        x.hello(5);
        x.tick(0);
        nothingHeard("refused", x, 1);
    }

    private static void objectsAreApart() {
        BranchTimes x = at(5, 1);
        BranchTimes y = new BranchTimes(6);
        x.hello(7);
        x.report(0);
        x.join(0, NONE, 1);
        nothingHeard("apart", y, 0);
        due("apart: me", x.look(5), 5);
    }
}
