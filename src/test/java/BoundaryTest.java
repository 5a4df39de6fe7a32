import java.util.Arrays;
import java.util.function.Consumer;

/**
 * One test for each sentence of the document that names a boundary case. Each is named by the number of its
 * promise and by the sentence that it holds, and a failure prints that name.
 * No object is used for more than 512 calls, but in ticksAbove100000.
 */
public final class BoundaryTest {
    private static final int NONE = BranchTimes.NONE;
    private static final int LEAST = Integer.MIN_VALUE;
    private static final int MOST = Integer.MAX_VALUE;
    private static final int ALL = 0xFFFF;

    // The last two come back into the rows by wrap-around: times 17 the one is 1, times 16 the other is 0.
    private static final int[] NO_GROUPS = {-1, 8, LEAST, MOST, 0xF0F0F0F1, 1 << 28};
    // 17 is a place of the next group's row, 32 is bit 0 by wrap-around of a shift.
    private static final int[] NO_SOURCES = {-2, 16, 17, 32, LEAST, MOST};
    private static final int[] NO_ROUTERS = {-1, 10, 32, LEAST, MOST};
    private static final int[] NO_TICKS = {0, -1, 101, LEAST, MOST};
    private static final int[] NO_WHATS = {-1, 8, LEAST, MOST};

    private static String sentence = "";
    private static int tests = 0;
    private static int wrong = 0;

    public static void main(String[] args) {
        limitOfCalls();
        promise1NewObject();
        promise2Tick();
        promise3Hello();
        promise4Report();
        promise5Leave();
        promise6Join();
        promise6JoinForStar();
        promise7Prune();
        promise8Forget();
        promises9To11();
        promise12Goes();
        promise13Look();
        promise13Neighbours();
        refusedCalls();
        System.out.println(tests + " boundary tests: " + (wrong == 0 ? "all as due" : wrong + " answers are not as due"));
        if (wrong != 0) {
            System.exit(1);
        }
    }

    private static void test(String promiseAndSentence, Runnable body) {
        sentence = promiseAndSentence;
        tests++;
        try {
            body.run();
        } catch (RuntimeException thrown) {
            wrong++;
            System.out.println(sentence + ": threw " + thrown);
        }
    }

    private static void due(String what, long got, long want) {
        if (got != want) {
            wrong++;
            System.out.println(sentence + ": " + what + " answered " + got + ", due is " + want);
        }
    }

    private static void due(String what, boolean got, boolean want) {
        due(what, got ? 1 : 0, want ? 1 : 0);
    }

    private static BranchTimes at(int me, int time) {
        BranchTimes x = new BranchTimes(me);
        pass(x, time);
        return x;
    }

    private static void pass(BranchTimes x, int ticks) {
        for (int left = ticks; left > 0; left -= Math.min(left, 100)) {
            x.tick(Math.min(left, 100));
        }
    }

    private static void crowd(BranchTimes x) {
        x.hello(1);
        x.hello(2);
    }

    private static BranchTimes crowdedAt(int time) {
        BranchTimes x = at(0, time);
        crowd(x);
        return x;
    }

    /** All that can be asked of an object: 288 calls. */
    private static int[] answers(BranchTimes x) {
        int[] all = new int[8 * (17 + 16 + 1 + 1) + 8];
        int place = 0;
        for (int what = 0; what < 8; what++) {
            all[place++] = x.look(what);
        }
        for (int g = 0; g < 8; g++) {
            all[place++] = x.members(g);
            all[place++] = x.goes(g);
            for (int s = NONE; s < 16; s++) {
                all[place++] = x.joined(g, s);
            }
            for (int s = 0; s < 16; s++) {
                all[place++] = x.cut(g, s);
            }
        }
        return all;
    }

    private static int[] answersOfNothingHeard(int me, int time) {
        int[] all = new int[8 * (17 + 16 + 1 + 1) + 8];
        all[0] = time;
        all[2] = 1;
        all[3] = 1;
        all[5] = me;
        return all;
    }

    private static void dueAlike(String what, int[] got, int[] want) {
        due(what + ", first other answer", Arrays.mismatch(got, want), -1);
    }

    // ---- What it is

    private static void limitOfCalls() {
        test("all promises, \"An object is used for at most 512 calls\": the 512th is answered",
                BoundaryTest::call512);
        test("2, \"An object is used for at most 512 calls\": 512 greatest ticks", BoundaryTest::ticks512);
        test("6, \"An object is used for at most 512 calls\": all but two of them joins", BoundaryTest::joins512);
    }

    private static BranchTimes after511Calls() {
        BranchTimes x = new BranchTimes(4);
        for (int i = 0; i < 506; i++) {
            x.tick(1);
        }
        x.hello(5);
        x.hello(8);
        x.report(3);
        x.join(3, NONE, 0b0110);
        x.join(3, 5, 0);
        return x;
    }

    private static void call512() {
        due("tick", after511Calls().tick(100), 606);
        due("hello", after511Calls().hello(9), true);
        due("report", after511Calls().report(7), true);
        due("leave", after511Calls().leave(3), true);
        due("join", after511Calls().join(7, NONE, ALL), true);
        due("prune", after511Calls().prune(3, 5), true);
        due("joined", after511Calls().joined(3, 5), 576);
        due("cut", after511Calls().cut(3, 2), 509);
        due("members", after511Calls().members(3), 566);
        due("goes", after511Calls().goes(3), ALL);
        due("look", after511Calls().look(7), 2);
    }

    private static void ticks512() {
        BranchTimes x = new BranchTimes(0);
        for (int i = 1; i <= 512; i++) {
            due("tick " + i, x.tick(100), 100L * i);
        }
    }

    private static void joins512() {
        BranchTimes x = new BranchTimes(0);
        for (int i = 0; i < 510; i++) {
            due("join " + i, x.join(i % 8, i / 8 % 17 - 1, i), true);
        }
        due("branches", x.look(7), 8 * 17);
        due("groups", x.look(6), 255);
    }

    // ---- Promise 1

    private static void promise1NewObject() {
        test("1, \"ME is ROUTER me, 0 .. 9\"", BoundaryTest::meFrom0To9);
        test("1, \"others count as the nearest\": too small", BoundaryTest::meTooSmall);
        test("1, \"others count as the nearest\": too large", BoundaryTest::meTooLarge);
        test("1, \"Nothing was heard\"", BoundaryTest::newObjectHeardNothing);
        test("1, \"TIME is 0 at first\"", BoundaryTest::timeAtFirst);
        test("1, \"All memory is the class's own\": two objects share nothing", BoundaryTest::objectsAreApart);
    }

    private static void meFrom0To9() {
        for (int me = 0; me <= 9; me++) {
            due("me " + me, new BranchTimes(me).look(5), me);
        }
    }

    private static void meTooSmall() {
        for (int me : new int[] {-1, -2, LEAST}) {
            BranchTimes x = new BranchTimes(me);
            due("me " + me, x.look(5), 0);
            due("hello of 0 to me " + me, x.hello(0), false);
            due("hello of 1 to me " + me, x.hello(1), true);
            due("first, me " + me, x.look(2), 0);
            due("asking, me " + me, x.look(3), 1);
        }
    }

    private static void meTooLarge() {
        for (int me : new int[] {10, 11, MOST}) {
            BranchTimes x = new BranchTimes(me);
            due("me " + me, x.look(5), 9);
            due("hello of 9 to me " + me, x.hello(9), false);
            due("hello of 8 to me " + me, x.hello(8), true);
            due("first, me " + me, x.look(2), 1);
            due("asking, me " + me, x.look(3), 0);
        }
    }

    private static void newObjectHeardNothing() {
        for (int me = 0; me <= 9; me++) {
            dueAlike("me " + me, answers(new BranchTimes(me)), answersOfNothingHeard(me, 0));
        }
    }

    private static void timeAtFirst() {
        due("time", new BranchTimes(0).look(0), 0);
        due("first tick", new BranchTimes(0).tick(1), 1);
    }

    private static void objectsAreApart() {
        BranchTimes x = new BranchTimes(2);
        BranchTimes y = new BranchTimes(3);
        hearMuch(x);
        dueAlike("the other", answers(y), answersOfNothingHeard(3, 0));
        y.forget();
        due("branches of the first", x.look(7), 4);
    }

    // ---- Promise 2

    private static void promise2Tick() {
        test("2, \"n TICKS, 1 .. 100: TIME\"", BoundaryTest::ticksFrom1To100);
        test("2, \"NONE for another n\"", BoundaryTest::otherTicks);
        test("2, \"NONE .. if it would be above 100000\"", BoundaryTest::ticksAbove100000);
    }

    private static void ticksFrom1To100() {
        int time = 0;
        BranchTimes x = new BranchTimes(0);
        for (int n = 1; n <= 100; n++) {
            time += n;
            due("tick " + n, x.tick(n), time);
            due("time after tick " + n, x.look(0), time);
        }
    }

    private static void otherTicks() {
        BranchTimes x = at(0, 7);
        for (int n : NO_TICKS) {
            due("tick " + n, x.tick(n), NONE);
            due("time after tick " + n, x.look(0), 7);
        }
    }

    // 512 calls reach no further than 51200: what is asked here is free, but the sentence stands in the promise.
    private static void ticksAbove100000() {
        BranchTimes x = at(0, 99900);
        due("to 99999", x.tick(99), 99999);
        due("2 above 99999", x.tick(2), NONE);
        due("100 above 99999", x.tick(100), NONE);
        due("to 100000", x.tick(1), 100000);
        due("1 above 100000", x.tick(1), NONE);
        due("time", x.look(0), 100000);
    }

    // ---- Promise 3

    private static void promise3Hello() {
        test("3, \"There are ROUTERS 0 .. 9\": each is heard", BoundaryTest::routersFrom0To9);
        test("3, \"false if there is none such\"", BoundaryTest::helloOfNoRouter);
        test("3, \"false if .. it is ME\"", BoundaryTest::helloOfMe);
        test("3, \"that is a NEIGHBOUR till TIME and 65\"", BoundaryTest::neighbourTill65);
        test("3, \"that is a NEIGHBOUR till TIME and 65\": heard again in its last time and after it",
                BoundaryTest::neighbourHeardAgain);
        test("3, \"that is a NEIGHBOUR till TIME and 65\": all ROUTERS, each from its own TIME",
                BoundaryTest::neighboursEachTill65);
    }

    private static void routersFrom0To9() {
        for (int n = 0; n <= 9; n++) {
            BranchTimes x = new BranchTimes(n == 4 ? 5 : 4);
            due("hello of " + n, x.hello(n), true);
            due("neighbours by hello of " + n, x.look(1), 1 << n);
        }
    }

    private static void helloOfNoRouter() {
        BranchTimes x = new BranchTimes(4);
        for (int n : NO_ROUTERS) {
            due("hello of " + n, x.hello(n), false);
            due("neighbours by hello of " + n, x.look(1), 0);
        }
    }

    private static void helloOfMe() {
        for (int me = 0; me <= 9; me++) {
            BranchTimes x = new BranchTimes(me);
            due("hello of me " + me, x.hello(me), false);
            due("neighbours of me " + me, x.look(1), 0);
        }
    }

    private static void neighbourTill65() {
        for (int time : new int[] {0, 30}) {
            BranchTimes x = at(4, time);
            x.hello(9);
            pass(x, 64);
            due("64 later", x.look(1), 1 << 9);
            pass(x, 1);
            due("65 later", x.look(1), 0);
        }
    }

    private static void neighbourHeardAgain() {
        BranchTimes x = new BranchTimes(4);
        x.hello(0);
        pass(x, 64);
        x.hello(0);
        pass(x, 64);
        due("64 after the second", x.look(1), 1);
        pass(x, 1);
        due("65 after the second", x.look(1), 0);
        due("after its end", x.hello(0), true);
        due("a neighbour once more", x.look(1), 1);
    }

    private static void neighboursEachTill65() {
        BranchTimes x = new BranchTimes(0);
        for (int n = 1; n <= 9; n++) {
            x.tick(1);
            x.hello(n);
        }
        pass(x, 65 - 9);
        for (int n = 1; n <= 9; n++) {
            x.tick(1);
            due("after the end of " + n, x.look(1), 0x3FF & -2 << n);
        }
    }

    // ---- Promise 4

    private static void promise4Report() {
        test("4, \"GROUPS 0 .. 7\": each is reported", BoundaryTest::reportOfEachGroup);
        test("4, \"false if there is none such\"", BoundaryTest::reportOfNoGroup);
        test("4, \"it has MEMBERS till TIME and 60\"", BoundaryTest::membersTill60);
        test("4, \"it has MEMBERS till TIME and 60\": reported again, and after a LEAVE",
                BoundaryTest::reportAgain);
        test("4, \"it has MEMBERS till TIME and 60\": all GROUPS, each from its own TIME",
                BoundaryTest::membersEachTill60);
    }

    private static void reportOfEachGroup() {
        for (int g = 0; g <= 7; g++) {
            BranchTimes x = new BranchTimes(0);
            due("report of " + g, x.report(g), true);
            due("groups that go by report of " + g, x.look(6), 1 << g);
        }
    }

    private static void reportOfNoGroup() {
        BranchTimes x = new BranchTimes(0);
        for (int g : NO_GROUPS) {
            due("report of " + g, x.report(g), false);
            due("groups that go by report of " + g, x.look(6), 0);
        }
    }

    private static void membersTill60() {
        for (int time : new int[] {0, 30}) {
            BranchTimes x = at(0, time);
            x.report(7);
            pass(x, 59);
            due("59 later", x.members(7), time + 60);
            pass(x, 1);
            due("60 later", x.members(7), 0);
        }
    }

    private static void reportAgain() {
        BranchTimes x = new BranchTimes(0);
        x.report(0);
        pass(x, 59);
        x.report(0);
        due("in the last time", x.members(0), 119);
        x.leave(0);
        x.report(0);
        due("after a leave", x.members(0), 119);
    }

    private static void membersEachTill60() {
        BranchTimes x = new BranchTimes(0);
        for (int g = 0; g < 8; g++) {
            x.tick(1);
            x.report(g);
        }
        for (int g = 0; g < 8; g++) {
            due("members of " + g, x.members(g), 61 + g);
        }
    }

    // ---- Promise 5

    private static void promise5Leave() {
        test("5, \"true if it had MEMBERS\": none, in the last time, at the end", BoundaryTest::leaveWithoutMembers);
        test("5, \"and ME is ASKING\": a lesser NEIGHBOUR, its last time and its end", BoundaryTest::leaveNotAsking);
        test("5, \"and ME is ASKING\": a greater NEIGHBOUR does not count", BoundaryTest::leaveByGreaterNeighbour);
        test("5, \"else false\": no such GROUP", BoundaryTest::leaveOfNoGroup);
        test("5, \"till TIME and 4\"", BoundaryTest::leaveTill4);
        test("5, \"till TIME and 4, if that is earlier\": 5, 4, 3 and 1 left", BoundaryTest::leaveIfEarlier);
        test("5, \"till TIME and 4, if that is earlier\": a second LEAVE", BoundaryTest::leaveTwice);
    }

    private static void leaveWithoutMembers() {
        BranchTimes x = new BranchTimes(0);
        due("none", x.leave(0), false);
        due("members after it", x.members(0), 0);
        x.report(0);
        x.report(7);
        due("of another group", x.leave(1), false);
        pass(x, 59);
        due("in the last time", x.leave(0), true);
        pass(x, 1);
        due("at the end", x.leave(7), false);
        due("members at the end", x.members(7), 0);
    }

    private static void leaveNotAsking() {
        BranchTimes x = new BranchTimes(4);
        x.hello(3);
        pass(x, 40);
        x.report(2);
        pass(x, 24);
        due("in the neighbour's last time", x.leave(2), false);
        due("members stay", x.members(2), 100);
        pass(x, 1);
        due("at the neighbour's end", x.leave(2), true);
        due("members leave", x.members(2), 69);
    }

    private static void leaveByGreaterNeighbour() {
        BranchTimes x = new BranchTimes(4);
        x.hello(5);
        x.report(2);
        due("leave", x.leave(2), true);
        due("members", x.members(2), 4);
    }

    private static void leaveOfNoGroup() {
        BranchTimes x = new BranchTimes(0);
        for (int g = 0; g < 8; g++) {
            x.report(g);
        }
        for (int g : NO_GROUPS) {
            due("leave of " + g, x.leave(g), false);
        }
        for (int g = 0; g < 8; g++) {
            due("members of " + g, x.members(g), 60);
        }
    }

    private static void leaveTill4() {
        BranchTimes x = at(0, 20);
        x.report(7);
        x.report(6);
        due("leave", x.leave(7), true);
        due("other group", x.members(6), 80);
        pass(x, 3);
        due("3 later", x.members(7), 24);
        pass(x, 1);
        due("4 later", x.members(7), 0);
    }

    private static void leaveIfEarlier() {
        for (int left : new int[] {5, 4, 3, 1}) {
            BranchTimes x = new BranchTimes(0);
            x.report(0);
            pass(x, 60 - left);
            due("leave, left " + left, x.leave(0), true);
            due("members, left " + left, x.members(0), left == 5 ? 59 : 60);
        }
    }

    private static void leaveTwice() {
        BranchTimes x = new BranchTimes(0);
        x.report(0);
        x.leave(0);
        pass(x, 3);
        due("second", x.leave(0), true);
        due("not put off", x.members(0), 4);
        pass(x, 1);
        due("third, at the end", x.leave(0), false);
    }

    // ---- Promise 6

    private static void promise6Join() {
        test("6, \"GROUPS 0 .. 7, SOURCES 0 .. 15; x stands for * or a SOURCE\": each branch is its own",
                BoundaryTest::joinOfEachBranch);
        test("6, \"false if there is none such\": no such GROUP", BoundaryTest::joinOfNoGroup);
        test("6, \"false if there is none such\": no such SOURCE", BoundaryTest::joinOfNoSource);
        test("6, \"it is JOINED for x till TIME and 70\": a SOURCE", BoundaryTest::joinedForSourceTill70);
        test("6, \"it is JOINED for x till TIME and 70\": *", BoundaryTest::joinedForStarTill70);
        test("6, \"it is JOINED for x till TIME and 70\": all branches, each from its own TIME",
                BoundaryTest::branchesEachTill70);
        test("6, \"* (s NONE; with the lowest 16 of bits)\": empty, full, one, and higher bits",
                BoundaryTest::lowest16OfBits);
        test("6, \"A JOIN for * tells SOURCES to be CUT OFF\": one for a SOURCE does not",
                BoundaryTest::bitsOfJoinForSource);
    }

    private static void joinOfEachBranch() {
        for (int g = 0; g < 8; g++) {
            for (int s = NONE; s < 16; s++) {
                BranchTimes x = new BranchTimes(0);
                due("join " + g + ", " + s, x.join(g, s, 0), true);
                due("joined " + g + ", " + s, x.joined(g, s), 70);
                due("branches by " + g + ", " + s, x.look(7), 1);
                due("groups by " + g + ", " + s, x.look(6), 1 << g);
                due("goes by " + g + ", " + s, x.goes(g), s == NONE ? ALL : 1 << s);
            }
        }
    }

    private static void joinOfNoGroup() {
        BranchTimes x = new BranchTimes(0);
        for (int g : NO_GROUPS) {
            due("join of " + g, x.join(g, 0, 0), false);
            due("join of " + g + " for 15", x.join(g, 15, 0), false);
            due("join of " + g + " for *", x.join(g, NONE, 0), false);
            due("branches by " + g, x.look(7), 0);
        }
    }

    private static void joinOfNoSource() {
        BranchTimes x = new BranchTimes(0);
        for (int s : NO_SOURCES) {
            due("join of 0 for " + s, x.join(0, s, 0), false);
            due("join of 3 for " + s, x.join(3, s, 0), false);
            due("join of 7 for " + s, x.join(7, s, 0), false);
            due("branches by " + s, x.look(7), 0);
        }
    }

    private static void joinedForSourceTill70() {
        joinedTill70(15);
    }

    private static void joinedForStarTill70() {
        joinedTill70(NONE);
    }

    private static void joinedTill70(int s) {
        BranchTimes x = at(0, 30);
        x.join(7, s, 0);
        pass(x, 69);
        due("69 later", x.joined(7, s), 100);
        x.join(7, s, 0);
        due("again in the last time", x.joined(7, s), 169);
        pass(x, 69);
        due("69 after the second", x.joined(7, s), 169);
        due("goes", x.goes(7) != 0, true);
        pass(x, 1);
        due("70 after the second", x.joined(7, s), 0);
        due("goes no more", x.goes(7), 0);
    }

    // Two joins a tick, so that the last is heard before the first ends.
    private static void branchesEachTill70() {
        BranchTimes x = new BranchTimes(0);
        for (int branch = 0; branch < 8 * 17; branch++) {
            x.join(branch / 17, branch % 17 - 1, 0);
            if (branch % 2 == 1) {
                x.tick(1);
            }
        }
        for (int branch = 0; branch < 8 * 17; branch++) {
            due("joined, branch " + branch, x.joined(branch / 17, branch % 17 - 1), branch / 2 + 70);
        }
    }

    private static void lowest16OfBits() {
        int[] bits = {0, 1, 0x8000, 0x10000, ALL, 0xFFFF0000, -1, LEAST, MOST};
        int[] told = {0, 1, 0x8000, 0, ALL, 0, ALL, 0, ALL};
        for (int i = 0; i < bits.length; i++) {
            BranchTimes x = at(0, 5);
            due("join by bits " + bits[i], x.join(0, NONE, bits[i]), true);
            due("goes by bits " + bits[i], x.goes(0), ALL & ~told[i]);
            for (int s = 0; s < 16; s++) {
                due("cut of " + s + " by bits " + bits[i], x.cut(0, s), (told[i] >> s & 1) == 0 ? 0 : 5);
            }
        }
    }

    private static void bitsOfJoinForSource() {
        BranchTimes x = at(0, 5);
        x.join(0, NONE, 0b01);
        x.join(0, 15, -1);
        due("told by neither", x.cut(0, 1), 0);
        x.join(0, 15, 0);
        due("told by *", x.cut(0, 0), 5);
        due("goes", x.goes(0), ALL & ~0b01);
    }

    private static void promise6JoinForStar() {
        test("6, \"each s that is not in BITS is cut off no more\": all, then none", BoundaryTest::cutOffNoMore);
        test("6, \"each s that is not in BITS is cut off no more\": ahead of its time",
                BoundaryTest::cutOffNoMoreAheadOfTime);
        test("6, \"was not told by the JOINS for * ahead without a break\": told by all",
                BoundaryTest::toldWithoutBreak);
        test("6, \"was not told by the JOINS for * ahead without a break\": one JOIN between does not tell it",
                BoundaryTest::toldWithBreak);
        test("6, \"if it was not JOINED for * as this one came\": in the last time, and at the end",
                BoundaryTest::toldAtEndOfJoin);
        test("6, \"if it was not JOINED for * as this one came\": after a PRUNE in the same TIME",
                BoundaryTest::toldAfterPrune);
        test("6, \"if it was not JOINED for * as this one came\": 2 and 3 after a PRUNE on a CROWDED PORT",
                BoundaryTest::toldAfterCrowdedPrune);
        test("6, \"if it was not JOINED for * as this one came\": JOINED for the SOURCE alone",
                BoundaryTest::toldWhileJoinedForSource);
        test("6, \"is CUT OFF from TIME on\": at once, at TIME 0 too", BoundaryTest::cutOffAtOnce);
        test("6, \"is CUT OFF from TIME on\": all SOURCES of all GROUPS, each from its own TIME",
                BoundaryTest::cutOffEachFromItsTime);
        test("6, \"if the PORT is CROWDED then, from TIME and 3 on\"", BoundaryTest::cutOffIn3);
        test("6, \"if the PORT is CROWDED then\": one NEIGHBOUR, and two in the last time of one and at its end",
                BoundaryTest::cutOffAtEdgeOfCrowd);
        test("6, \"if the PORT is CROWDED then\": a crowd that comes or goes later changes nothing",
                BoundaryTest::cutOffByCrowdThen);
        test("6, \"as long as it is JOINED for *\": the last time, the end", BoundaryTest::cutOffAsLongAsJoined);
    }

    private static void cutOffNoMore() {
        BranchTimes x = at(0, 5);
        x.join(0, NONE, ALL);
        due("goes, all told", x.goes(0), 0);
        x.join(0, NONE, 0);
        due("goes, none told", x.goes(0), ALL);
        for (int s = 0; s < 16; s++) {
            due("cut of " + s, x.cut(0, s), 0);
        }
    }

    private static void cutOffNoMoreAheadOfTime() {
        BranchTimes x = crowdedAt(5);
        x.join(0, NONE, 0b11);
        pass(x, 2);
        x.join(0, NONE, 0b10);
        due("cut", x.cut(0, 0), 0);
        pass(x, 1);
        due("goes", x.goes(0), ALL & ~0b10);
    }

    private static void toldWithoutBreak() {
        BranchTimes x = at(0, 5);
        for (int i = 0; i < 4; i++) {
            x.join(7, NONE, 0x8000 | 1 << i);
            due("told by each", x.cut(7, 15), 5);
            due("told by this", x.cut(7, i), 5 + 69 * i);
            pass(x, 69);
        }
    }

    private static void toldWithBreak() {
        BranchTimes x = at(0, 5);
        x.join(0, NONE, 0b1);
        x.tick(1);
        x.join(0, NONE, 0);
        x.tick(1);
        x.join(0, NONE, 0b1);
        due("told anew", x.cut(0, 0), 7);
        crowd(x);
        x.join(0, NONE, 0);
        x.join(0, NONE, 0b1);
        due("told anew in the same time", x.cut(0, 0), 10);
        due("goes till then", x.goes(0), ALL);
    }

    private static void toldAtEndOfJoin() {
        for (int later : new int[] {69, 70}) {
            BranchTimes x = at(0, 5);
            x.join(0, NONE, ALL);
            pass(x, later);
            x.join(0, NONE, ALL);
            for (int s = 0; s < 16; s++) {
                due("cut of " + s + ", " + later + " later", x.cut(0, s), later == 69 ? 5 : 75);
            }
        }
    }

    private static void toldAfterPrune() {
        BranchTimes x = at(0, 5);
        x.join(0, NONE, 0b1);
        x.tick(1);
        x.prune(0, NONE);
        x.join(0, NONE, 0b1);
        due("cut", x.cut(0, 0), 6);
    }

    private static void toldAfterCrowdedPrune() {
        for (int later : new int[] {2, 3}) {
            BranchTimes x = at(0, 5);
            x.join(0, NONE, 0b1);
            crowd(x);
            x.prune(0, NONE);
            pass(x, later);
            x.join(0, NONE, 0b1);
            due("cut, " + later + " later", x.cut(0, 0), later == 2 ? 5 : 11);
        }
    }

    private static void toldWhileJoinedForSource() {
        BranchTimes x = at(0, 5);
        x.join(0, NONE, 0b1);
        pass(x, 60);
        x.join(0, 0, 0);
        pass(x, 10);
        x.join(0, NONE, 0b1);
        due("cut", x.cut(0, 0), 75);
    }

    private static void cutOffAtOnce() {
        BranchTimes x = new BranchTimes(0);
        x.join(0, NONE, 0b1);
        due("cut at time 0", x.cut(0, 0), 0);
        due("goes at time 0", x.goes(0), ALL & ~0b1);
        x.tick(1);
        x.join(0, NONE, 0b11);
        due("cut since time 0", x.cut(0, 0), 0);
        due("cut at time 1", x.cut(0, 1), 1);
        due("goes at time 1", x.goes(0), ALL & ~0b11);
    }

    // Each round tells one source more in every group, the later groups a tick later.
    private static void cutOffEachFromItsTime() {
        BranchTimes x = new BranchTimes(0);
        for (int step = 0; step < 8 * 16; step++) {
            x.tick(1);
            x.join(step % 8, NONE, (2 << step / 8) - 1);
        }
        for (int step = 0; step < 8 * 16; step++) {
            due("cut of group " + step % 8 + ", " + step / 8, x.cut(step % 8, step / 8), step + 1);
        }
    }

    private static void cutOffIn3() {
        BranchTimes x = crowdedAt(5);
        x.join(0, NONE, ALL);
        due("cut", x.cut(0, 15), 8);
        due("goes at once", x.goes(0), ALL);
        pass(x, 2);
        due("goes 2 later", x.goes(0), ALL);
        pass(x, 1);
        due("goes 3 later", x.goes(0), 0);
    }

    private static void cutOffAtEdgeOfCrowd() {
        BranchTimes one = at(0, 5);
        one.hello(1);
        one.join(0, NONE, 0b1);
        due("one neighbour", one.cut(0, 0), 5);
        for (int later : new int[] {64, 65}) {
            BranchTimes two = at(0, 5);
            two.hello(1);
            pass(two, later);
            two.hello(2);
            two.join(0, NONE, 0b1);
            due("two, " + later + " later", two.cut(0, 0), later == 64 ? 72 : 70);
        }
    }

    private static void cutOffByCrowdThen() {
        BranchTimes comes = at(0, 5);
        comes.join(0, NONE, 0b1);
        crowd(comes);
        comes.join(0, NONE, 0b1);
        due("comes", comes.cut(0, 0), 5);
        BranchTimes goes = crowdedAt(5);
        pass(goes, 64);
        goes.join(0, NONE, 0b1);
        pass(goes, 1);
        goes.join(0, NONE, 0b1);
        due("goes", goes.cut(0, 0), 72);
        due("goes on till then", goes.goes(0), ALL);
    }

    private static void cutOffAsLongAsJoined() {
        BranchTimes x = at(0, 5);
        x.join(0, NONE, 0b11);
        pass(x, 69);
        x.join(0, 1, 0);
        due("cut in the last time", x.cut(0, 0), 5);
        due("goes in the last time", x.goes(0), ALL & ~0b01);
        pass(x, 1);
        due("cut at the end", x.cut(0, 0), 0);
        due("goes at the end", x.goes(0), 0b10);
        x.join(0, NONE, 0);
        due("goes by a new join", x.goes(0), ALL);
    }

    // ---- Promise 7

    private static void promise7Prune() {
        test("7, \"true if it was JOINED for that; else false\": never, in the last time, at the end, twice",
                BoundaryTest::pruneIfJoined);
        test("7, \"else false\": no such GROUP", BoundaryTest::pruneOfNoGroup);
        test("7, \"else false\": no such SOURCE", BoundaryTest::pruneOfNoSource);
        test("7, \"PRUNE for x\": x alone", BoundaryTest::pruneOfOneBranch);
        test("7, \"till TIME\": with no NEIGHBOUR and with one", BoundaryTest::pruneAtOnce);
        test("7, \"or, if the PORT is CROWDED, TIME and 3\"", BoundaryTest::pruneIn3);
        test("7, \"if the PORT is CROWDED\": two NEIGHBOURS in the last time of one, and at its end",
                BoundaryTest::pruneAtEdgeOfCrowd);
        test("7, \"TIME and 3, if that is earlier\": 4, 3, 2 and 1 left", BoundaryTest::pruneIfEarlier);
        test("7, \"TIME and 3, if that is earlier\": a second PRUNE", BoundaryTest::pruneTwice);
        test("7, \"TIME and 3, if that is earlier\": the crowd is gone at the second PRUNE",
                BoundaryTest::pruneTwiceAsCrowdGoes);
    }

    private static void pruneIfJoined() {
        for (int s : new int[] {NONE, 0, 15}) {
            BranchTimes x = new BranchTimes(0);
            due("never, " + s, x.prune(0, s), false);
            due("joined, " + s, x.joined(0, s), 0);
            x.join(0, s, 0);
            x.join(7, s, 0);
            pass(x, 69);
            due("in the last time, " + s, x.prune(0, s), true);
            due("twice, " + s, x.prune(0, s), false);
            pass(x, 1);
            due("at the end, " + s, x.prune(7, s), false);
        }
    }

    private static BranchTimes allJoined() {
        BranchTimes x = new BranchTimes(0);
        for (int g = 0; g < 8; g++) {
            for (int s = NONE; s < 16; s++) {
                x.join(g, s, 0);
            }
        }
        return x;
    }

    private static void pruneOfNoGroup() {
        BranchTimes x = allJoined();
        for (int g : NO_GROUPS) {
            due("prune of " + g, x.prune(g, 0), false);
            due("prune of " + g + " for 15", x.prune(g, 15), false);
            due("prune of " + g + " for *", x.prune(g, NONE), false);
            due("branches by " + g, x.look(7), 8 * 17);
        }
    }

    private static void pruneOfNoSource() {
        BranchTimes x = allJoined();
        for (int s : NO_SOURCES) {
            due("prune of 0 for " + s, x.prune(0, s), false);
            due("prune of 3 for " + s, x.prune(3, s), false);
            due("prune of 7 for " + s, x.prune(7, s), false);
            due("branches by " + s, x.look(7), 8 * 17);
        }
    }

    private static void pruneOfOneBranch() {
        BranchTimes x = allJoined();
        int left = 8 * 17;
        for (int g = 7; g >= 0; g--) {
            for (int s = 15; s >= NONE; s -= 8) {
                due("prune " + g + ", " + s, x.prune(g, s), true);
                due("joined " + g + ", " + s, x.joined(g, s), 0);
                due("branches by " + g + ", " + s, x.look(7), --left);
            }
        }
    }

    private static void pruneAtOnce() {
        for (int neighbours = 0; neighbours <= 1; neighbours++) {
            BranchTimes x = at(0, 5);
            if (neighbours == 1) {
                x.hello(9);
            }
            x.join(0, 0, 0);
            x.join(0, NONE, 0);
            x.prune(0, 0);
            due("joined, neighbours " + neighbours, x.joined(0, 0), 0);
            x.prune(0, NONE);
            due("joined for *, neighbours " + neighbours, x.joined(0, NONE), 0);
            due("goes, neighbours " + neighbours, x.goes(0), 0);
        }
    }

    private static void pruneIn3() {
        BranchTimes x = crowdedAt(5);
        x.join(0, 0, 0);
        x.join(1, NONE, 0);
        due("prune", x.prune(0, 0), true);
        due("prune for *", x.prune(1, NONE), true);
        pass(x, 2);
        due("2 later", x.joined(0, 0), 8);
        due("* 2 later", x.joined(1, NONE), 8);
        due("goes 2 later", x.goes(1), ALL);
        pass(x, 1);
        due("3 later", x.joined(0, 0), 0);
        due("* 3 later", x.joined(1, NONE), 0);
        due("groups 3 later", x.look(6), 0);
    }

    private static void pruneAtEdgeOfCrowd() {
        for (int later : new int[] {64, 65}) {
            BranchTimes x = at(0, 5);
            x.hello(1);
            pass(x, later);
            x.hello(2);
            x.join(0, 0, 0);
            x.prune(0, 0);
            due("joined, " + later + " later", x.joined(0, 0), later == 64 ? 72 : 0);
        }
    }

    private static void pruneIfEarlier() {
        for (int left : new int[] {4, 3, 2, 1}) {
            BranchTimes x = new BranchTimes(0);
            x.join(0, 0, 0);
            x.join(0, NONE, 0);
            pass(x, 70 - left);
            crowd(x);
            due("prune, left " + left, x.prune(0, 0), true);
            due("joined, left " + left, x.joined(0, 0), left == 4 ? 69 : 70);
            due("prune for *, left " + left, x.prune(0, NONE), true);
            due("joined for *, left " + left, x.joined(0, NONE), left == 4 ? 69 : 70);
        }
    }

    private static void pruneTwice() {
        BranchTimes x = crowdedAt(5);
        x.join(0, 0, 0);
        x.prune(0, 0);
        pass(x, 2);
        due("second", x.prune(0, 0), true);
        due("not put off", x.joined(0, 0), 8);
        pass(x, 1);
        due("third, at the end", x.prune(0, 0), false);
    }

    private static void pruneTwiceAsCrowdGoes() {
        BranchTimes x = crowdedAt(5);
        pass(x, 64);
        x.join(0, 0, 0);
        x.prune(0, 0);
        due("in 3", x.joined(0, 0), 72);
        pass(x, 1);
        due("second", x.prune(0, 0), true);
        due("at once", x.joined(0, 0), 0);
    }

    // ---- Promise 8

    private static void promise8Forget() {
        test("8, \"All that was heard is forgotten (TIME stays)\": full", BoundaryTest::forgetAll);
        test("8, \"All that was heard is forgotten (TIME stays)\": empty", BoundaryTest::forgetNothing);
        test("8, \"All that was heard is forgotten\": a JOIN for * after it tells anew",
                BoundaryTest::forgetToldSources);
    }

    private static void forgetAll() {
        BranchTimes x = allJoined();
        x.tick(9);
        for (int n = 1; n <= 9; n++) {
            x.hello(n);
        }
        for (int g = 0; g < 8; g++) {
            x.report(g);
            x.join(g, NONE, ALL);
        }
        x.forget();
        dueAlike("forgotten", answers(x), answersOfNothingHeard(0, 9));
    }

    private static void forgetNothing() {
        BranchTimes x = new BranchTimes(9);
        x.forget();
        x.forget();
        dueAlike("forgotten", answers(x), answersOfNothingHeard(9, 0));
        due("time goes on", x.tick(100), 100);
    }

    private static void forgetToldSources() {
        BranchTimes x = at(0, 5);
        x.join(0, NONE, 0b11);
        x.tick(1);
        x.forget();
        x.join(0, NONE, 0b01);
        due("told again", x.cut(0, 0), 6);
        due("not told again", x.cut(0, 1), 0);
        due("goes", x.goes(0), ALL & ~0b01);
    }

    // ---- Promises 9 to 11

    private static void promises9To11() {
        test("9, \"or for * (s NONE)\": and not the branches beside it", BoundaryTest::joinedForStar);
        test("9, \"0 if it is not\"", BoundaryTest::notJoined);
        test("9, \"NONE if there is none such\": no such GROUP", BoundaryTest::joinedOfNoGroup);
        test("9, \"NONE if there is none such\": no such SOURCE", BoundaryTest::joinedOfNoSource);
        test("10, \"From when s is, or will be, CUT OFF\": before, at and after it", BoundaryTest::cutIsOrWillBe);
        test("10, \"0 if it is not told\"", BoundaryTest::cutNotTold);
        test("10, \"0 if .. it is not JOINED for *\"", BoundaryTest::cutNotJoined);
        test("10, \"NONE if there is none such\": no such GROUP", BoundaryTest::cutOfNoGroup);
        test("10, \"NONE if there is none such\": no such SOURCE, * among them", BoundaryTest::cutOfNoSource);
        test("11, \"0 without\": never, at the end, after forget", BoundaryTest::noMembers);
        test("11, \"NONE if there is none such\"", BoundaryTest::membersOfNoGroup);
    }

    private static void joinedForStar() {
        BranchTimes x = at(0, 1);
        x.join(3, NONE, ALL);
        x.join(4, 15, 0);
        due("*", x.joined(3, NONE), 71);
        due("first source of it", x.joined(3, 0), 0);
        due("last source of it", x.joined(3, 15), 0);
        due("* of the group ahead", x.joined(2, NONE), 0);
        due("* of a group joined for a source", x.joined(4, NONE), 0);
        due("last source", x.joined(4, 15), 71);
        due("first source of the next group", x.joined(5, 0), 0);
    }

    private static void notJoined() {
        BranchTimes x = at(0, 1);
        due("never", x.joined(7, 15), 0);
        due("* never", x.joined(7, NONE), 0);
        x.join(7, 15, 0);
        x.join(7, NONE, 0);
        x.prune(7, 15);
        due("pruned", x.joined(7, 15), 0);
        pass(x, 70);
        due("* at the end", x.joined(7, NONE), 0);
        pass(x, 100);
        due("* long after it", x.joined(7, NONE), 0);
    }

    private static void joinedOfNoGroup() {
        BranchTimes x = allJoined();
        for (int g : NO_GROUPS) {
            due("joined " + g, x.joined(g, 0), NONE);
            due("joined " + g + " for 15", x.joined(g, 15), NONE);
            due("joined " + g + " for *", x.joined(g, NONE), NONE);
        }
    }

    private static void joinedOfNoSource() {
        BranchTimes x = allJoined();
        for (int s : NO_SOURCES) {
            due("joined 0 for " + s, x.joined(0, s), NONE);
            due("joined 3 for " + s, x.joined(3, s), NONE);
            due("joined 7 for " + s, x.joined(7, s), NONE);
        }
    }

    private static void cutIsOrWillBe() {
        BranchTimes x = crowdedAt(5);
        x.join(7, NONE, 0x8001);
        for (int later : new int[] {0, 2, 3, 69}) {
            pass(x, 5 + later - x.look(0));
            due("first, " + later + " later", x.cut(7, 0), 8);
            due("last, " + later + " later", x.cut(7, 15), 8);
        }
    }

    private static void cutNotTold() {
        BranchTimes x = at(0, 5);
        due("nothing heard", x.cut(0, 0), 0);
        x.join(3, NONE, 0x7FFE);
        due("first", x.cut(3, 0), 0);
        due("last", x.cut(3, 15), 0);
        due("group ahead", x.cut(2, 15), 0);
        due("next group", x.cut(4, 0), 0);
    }

    private static void cutNotJoined() {
        BranchTimes x = at(0, 5);
        x.join(0, NONE, ALL);
        x.join(0, 0, 0);
        x.join(1, NONE, ALL);
        x.prune(1, NONE);
        due("pruned", x.cut(1, 0), 0);
        pass(x, 69);
        due("in the last time", x.cut(0, 0), 5);
        x.join(0, 0, 0);
        pass(x, 1);
        due("at the end", x.cut(0, 0), 0);
        due("last source at the end", x.cut(0, 15), 0);
    }

    private static BranchTimes allCutOff() {
        BranchTimes x = at(0, 5);
        for (int g = 0; g < 8; g++) {
            x.join(g, NONE, ALL);
        }
        return x;
    }

    private static void cutOfNoGroup() {
        BranchTimes x = allCutOff();
        for (int g : NO_GROUPS) {
            due("cut " + g, x.cut(g, 0), NONE);
            due("cut " + g + ", 15", x.cut(g, 15), NONE);
            due("cut " + g + ", *", x.cut(g, NONE), NONE);
        }
    }

    private static void cutOfNoSource() {
        BranchTimes x = allCutOff();
        for (int s : NO_SOURCES) {
            due("cut 0, " + s, x.cut(0, s), NONE);
            due("cut 3, " + s, x.cut(3, s), NONE);
            due("cut 7, " + s, x.cut(7, s), NONE);
        }
        due("cut 0, *", x.cut(0, NONE), NONE);
        due("cut 7, *", x.cut(7, NONE), NONE);
    }

    private static void noMembers() {
        BranchTimes x = at(0, 5);
        due("never", x.members(0), 0);
        x.report(0);
        x.report(1);
        due("beside", x.members(2), 0);
        pass(x, 60);
        due("at the end", x.members(0), 0);
        pass(x, 100);
        due("long after it", x.members(0), 0);
        x.report(1);
        x.forget();
        due("after forget", x.members(1), 0);
    }

    private static void membersOfNoGroup() {
        BranchTimes x = new BranchTimes(0);
        for (int g = 0; g < 8; g++) {
            x.report(g);
        }
        for (int g : NO_GROUPS) {
            due("members " + g, x.members(g), NONE);
        }
    }

    // ---- Promise 12

    private static void promise12Goes() {
        test("12, \"The SOURCES of a GROUP that go on by the PORT, as bits\": none and all",
                BoundaryTest::goesNoneAndAll);
        test("12, \"JOINED for * and s is not CUT OFF\": ahead of its time, in it", BoundaryTest::goesByStar);
        test("12, \"or JOINED for s\": though it is CUT OFF, till the end", BoundaryTest::goesBySource);
        test("12, \"or the GROUP is OWN\": the last time of the MEMBERS, their end", BoundaryTest::goesByOwn);
        test("12, \"OWN if it has MEMBERS and ME is FIRST\": a greater NEIGHBOUR's last time, its end",
                BoundaryTest::goesByOwnIfFirst);
        test("12, \"NONE if there is no such GROUP\"", BoundaryTest::goesOfNoGroup);
    }

    private static void goesNoneAndAll() {
        BranchTimes x = at(0, 5);
        due("nothing heard", x.goes(0), 0);
        for (int s = 0; s < 16; s++) {
            x.join(0, s, 0);
            due("joined up to " + s, x.goes(0), (2 << s) - 1);
        }
        x.join(7, NONE, 0);
        due("joined for *", x.goes(7), ALL);
        x.join(7, NONE, ALL);
        due("all cut off", x.goes(7), 0);
    }

    private static void goesByStar() {
        BranchTimes x = crowdedAt(0);
        x.join(0, NONE, 0x8001);
        pass(x, 2);
        due("ahead of its time", x.goes(0), ALL);
        pass(x, 1);
        due("in its time", x.goes(0), 0x7FFE);
        pass(x, 66);
        due("in the last time of *", x.goes(0), 0x7FFE);
        pass(x, 1);
        due("at the end of *", x.goes(0), 0);
    }

    private static void goesBySource() {
        BranchTimes x = at(0, 5);
        x.join(0, 15, 0);
        pass(x, 69);
        x.join(0, NONE, ALL);
        due("in the last time", x.goes(0), 0x8000);
        pass(x, 1);
        due("at the end", x.goes(0), 0);
    }

    private static void goesByOwn() {
        BranchTimes x = at(0, 5);
        x.report(0);
        x.join(0, NONE, ALL);
        pass(x, 59);
        due("in the last time", x.goes(0), ALL);
        pass(x, 1);
        due("at the end", x.goes(0), 0);
    }

    private static void goesByOwnIfFirst() {
        BranchTimes x = at(4, 5);
        x.hello(3);
        x.report(0);
        due("a lesser neighbour", x.goes(0), ALL);
        x.hello(5);
        due("a greater neighbour", x.goes(0), 0);
        pass(x, 64);
        x.report(0);
        due("in its last time", x.goes(0), 0);
        pass(x, 1);
        due("at its end", x.goes(0), ALL);
    }

    private static void goesOfNoGroup() {
        BranchTimes x = allJoined();
        for (int g : NO_GROUPS) {
            due("goes " + g, x.goes(g), NONE);
        }
    }

    // ---- Promise 13

    private static void promise13Look() {
        test("13, \"What 0: TIME\": at first, and at the greatest of 512 calls", BoundaryTest::lookAtTime);
        test("13, \"1: NEIGHBOURS as bits\": none and all", BoundaryTest::lookAtNeighbours);
        test("13, \"5: ME\": what is heard does not change it", BoundaryTest::lookAtMe);
        test("13, \"6: the GROUPS that have something to go on, as bits\": none, one SOURCE of one, all",
                BoundaryTest::lookAtGroups);
        test("13, \"7: branches (of all GROUPS and x) for which it is JOINED\": none, all, the last time, the end",
                BoundaryTest::lookAtBranches);
        test("13, \"NONE for another what\"", BoundaryTest::lookAtNothing);
    }

    private static void lookAtTime() {
        BranchTimes x = new BranchTimes(0);
        due("at first", x.look(0), 0);
        for (int i = 0; i < 510; i++) {
            x.tick(100);
        }
        due("after 510 ticks", x.look(0), 51000);
    }

    private static void lookAtNeighbours() {
        for (int me : new int[] {0, 4, 9}) {
            BranchTimes x = new BranchTimes(me);
            due("none of me " + me, x.look(1), 0);
            for (int n = 0; n <= 9; n++) {
                x.hello(n);
            }
            due("all of me " + me, x.look(1), 0x3FF & ~(1 << me));
        }
    }

    private static void lookAtMe() {
        BranchTimes x = new BranchTimes(9);
        hearMuch(x);
        due("heard much", x.look(5), 9);
        x.forget();
        due("forgotten", x.look(5), 9);
    }

    private static void lookAtGroups() {
        BranchTimes x = at(0, 5);
        due("none", x.look(6), 0);
        x.join(7, 15, 0);
        due("one source of one", x.look(6), 0x80);
        x.join(0, NONE, ALL);
        due("joined, but all cut off", x.look(6), 0x80);
        x.join(0, NONE, 0x7FFF);
        due("all but one cut off", x.look(6), 0x81);
        for (int g = 1; g < 7; g++) {
            x.report(g);
        }
        due("all", x.look(6), 0xFF);
        pass(x, 60);
        due("members gone", x.look(6), 0x81);
        pass(x, 10);
        due("branches gone", x.look(6), 0);
    }

    private static void lookAtBranches() {
        BranchTimes x = allJoined();
        due("all", x.look(7), 8 * 17);
        for (int g = 0; g < 8; g++) {
            x.report(g);
        }
        due("members are no branches", x.look(7), 8 * 17);
        pass(x, 69);
        due("in the last time", x.look(7), 8 * 17);
        x.join(7, NONE, ALL);
        pass(x, 1);
        due("at the end, but one", x.look(7), 1);
        pass(x, 69);
        due("at the end", x.look(7), 0);
    }

    private static void lookAtNothing() {
        BranchTimes x = allJoined();
        for (int what : NO_WHATS) {
            due("look " + what, x.look(what), NONE);
        }
    }

    private static void promise13Neighbours() {
        test("13, \"FIRST if there is no NEIGHBOUR of a greater number\": each ME by each ROUTER",
                BoundaryTest::firstByNumber);
        test("13, \"FIRST if there is no NEIGHBOUR of a greater number\": its last time, its end",
                BoundaryTest::firstByTime);
        test("13, \"ASKING if there is none of a lesser one\": each ME by each ROUTER",
                BoundaryTest::askingByNumber);
        test("13, \"ASKING if there is none of a lesser one\": its last time, its end",
                BoundaryTest::askingByTime);
        test("13, \"CROWDED if there are two NEIGHBOURS or more\": none to all", BoundaryTest::crowdedByNumber);
        test("13, \"CROWDED if there are two NEIGHBOURS or more\": one heard twice, and ME",
                BoundaryTest::crowdedByOne);
        test("13, \"CROWDED if there are two NEIGHBOURS or more\": the last time of one, its end",
                BoundaryTest::crowdedByTime);
    }

    private static void firstByNumber() {
        for (int me = 0; me <= 9; me++) {
            for (int n = 0; n <= 9; n++) {
                BranchTimes x = new BranchTimes(me);
                due("alone, " + me, x.look(2), 1);
                x.hello(n);
                due(me + " by " + n, x.look(2), n > me ? 0 : 1);
            }
        }
    }

    private static void firstByTime() {
        BranchTimes x = at(4, 5);
        x.hello(5);
        pass(x, 64);
        x.hello(3);
        due("in its last time", x.look(2), 0);
        pass(x, 1);
        due("at its end", x.look(2), 1);
    }

    private static void askingByNumber() {
        for (int me = 0; me <= 9; me++) {
            for (int n = 0; n <= 9; n++) {
                BranchTimes x = new BranchTimes(me);
                due("alone, " + me, x.look(3), 1);
                x.hello(n);
                due(me + " by " + n, x.look(3), n < me ? 0 : 1);
            }
        }
    }

    private static void askingByTime() {
        BranchTimes x = at(4, 5);
        x.hello(3);
        pass(x, 64);
        x.hello(5);
        due("in its last time", x.look(3), 0);
        pass(x, 1);
        due("at its end", x.look(3), 1);
    }

    private static void crowdedByNumber() {
        for (int me = 0; me <= 9; me++) {
            BranchTimes x = new BranchTimes(me);
            int count = 0;
            due("none", x.look(4), 0);
            for (int n = 9; n >= 0; n--) {
                count += x.hello(n) ? 1 : 0;
                due("neighbours of " + me + ", " + count, x.look(4), count < 2 ? 0 : 1);
            }
        }
    }

    private static void crowdedByOne() {
        BranchTimes x = new BranchTimes(4);
        x.hello(9);
        x.tick(1);
        x.hello(9);
        x.hello(4);
        due("crowded", x.look(4), 0);
    }

    private static void crowdedByTime() {
        BranchTimes x = at(4, 5);
        x.hello(0);
        pass(x, 64);
        x.hello(9);
        due("in its last time", x.look(4), 1);
        pass(x, 1);
        due("at its end", x.look(4), 0);
    }

    // ---- Refused calls

    private static void refusedCalls() {
        test("2, \"A call that is refused changes nothing\": tick", () -> refused(BoundaryTest::refusedTicks));
        test("3, \"A call that is refused changes nothing\": hello", () -> refused(BoundaryTest::refusedHellos));
        test("4, \"A call that is refused changes nothing\": report", () -> refused(BoundaryTest::refusedReports));
        test("5, \"A call that is refused changes nothing\": leave", () -> refused(BoundaryTest::refusedLeaves));
        test("6, \"A call that is refused changes nothing\": join", () -> refused(BoundaryTest::refusedJoins));
        test("7, \"A call that is refused changes nothing\": prune", () -> refused(BoundaryTest::refusedPrunes));
        test("9 to 13, \"A call that is refused changes nothing\": joined, cut, members, goes, look",
                () -> refused(BoundaryTest::refusedQuestions));
    }

    /** Leaves groups and branches that stand, that end soon and that were never heard, for ME between 1 and 8. */
    private static void hearMuch(BranchTimes x) {
        pass(x, 7);
        x.hello(8);
        x.report(0);
        x.report(7);
        x.leave(7);
        x.join(0, NONE, 0x8001);
        x.tick(1);
        x.hello(1);
        x.join(0, NONE, 0x8003);
        x.join(7, NONE, ALL);
        x.join(0, 0, 0);
        x.join(7, 15, 0);
        x.prune(7, NONE);
    }

    /** Two objects hear the same, one of them is refused calls as well: then and later they answer alike. */
    private static void refused(Consumer<BranchTimes> calls) {
        BranchTimes x = new BranchTimes(4);
        BranchTimes twin = new BranchTimes(4);
        hearMuch(x);
        hearMuch(twin);
        calls.accept(x);
        dueAlike("at once", answers(x), answers(twin));
        for (int later = 1; later <= 70; later++) {
            due("tick, " + later + " later", x.tick(1), twin.tick(1));
            due("branches, " + later + " later", x.look(7), twin.look(7));
            if (later >= 60 && later <= 65) {
                due("neighbours, " + later + " later", x.look(1), twin.look(1));
            }
        }
    }

    private static void refusedTicks(BranchTimes x) {
        for (int n : NO_TICKS) {
            due("tick " + n, x.tick(n), NONE);
        }
    }

    private static void refusedHellos(BranchTimes x) {
        for (int n : NO_ROUTERS) {
            due("hello of " + n, x.hello(n), false);
        }
        due("hello of me", x.hello(4), false);
    }

    private static void refusedReports(BranchTimes x) {
        for (int g : NO_GROUPS) {
            due("report of " + g, x.report(g), false);
        }
    }

    private static void refusedLeaves(BranchTimes x) {
        for (int g : NO_GROUPS) {
            due("leave of " + g, x.leave(g), false);
        }
        due("leave, not asking", x.leave(0), false);
        due("leave without members", x.leave(1), false);
    }

    private static void refusedJoins(BranchTimes x) {
        for (int g : NO_GROUPS) {
            due("join of " + g + " for *", x.join(g, NONE, 0b100), false);
            due("join of " + g + " for 5", x.join(g, 5, 0b100), false);
        }
        for (int s : NO_SOURCES) {
            due("join of 0 for " + s, x.join(0, s, 0b100), false);
            due("join of 7 for " + s, x.join(7, s, 0b100), false);
        }
    }

    private static void refusedPrunes(BranchTimes x) {
        for (int g : NO_GROUPS) {
            due("prune of " + g + " for *", x.prune(g, NONE), false);
            due("prune of " + g + " for 0", x.prune(g, 0), false);
        }
        for (int s : NO_SOURCES) {
            due("prune of 0 for " + s, x.prune(0, s), false);
            due("prune of 7 for " + s, x.prune(7, s), false);
        }
        due("prune of what is not joined", x.prune(0, 1), false);
        due("prune for * that is not joined", x.prune(1, NONE), false);
    }

    private static void refusedQuestions(BranchTimes x) {
        for (int g : NO_GROUPS) {
            due("joined " + g, x.joined(g, 0), NONE);
            due("cut " + g, x.cut(g, 0), NONE);
            due("members " + g, x.members(g), NONE);
            due("goes " + g, x.goes(g), NONE);
        }
        for (int s : NO_SOURCES) {
            due("joined 0 for " + s, x.joined(0, s), NONE);
            due("cut 0, " + s, x.cut(0, s), NONE);
        }
        for (int what : NO_WHATS) {
            due("look " + what, x.look(what), NONE);
        }
    }
}
