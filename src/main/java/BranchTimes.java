import java.util.Arrays;

/** What a port of a router holds, by what it heard and when. */
public final class BranchTimes {
    public static final int NONE = -1;

    private static final int ROUTERS = 10;
    private static final int GROUPS = 8;
    private static final int SOURCES = 16;
    private static final int ALL_SOURCES = 0xFFFF;

    // The branch for * stands behind those of the sources, so that one row holds both.
    private static final int STAR = SOURCES;
    private static final int BRANCHES = SOURCES + 1;

    private static final int MOST_TICKS = 100;
    private static final int LAST_TIME = 100000;

    private static final int NEIGHBOUR_SPAN = 65;
    private static final int MEMBERS_SPAN = 60;
    private static final int LEAVE_SPAN = 4;
    private static final int JOIN_SPAN = 70;
    private static final int CROWDED_SPAN = 3;

    private final int me;
    private int time;

    // All of these hold the time till which a thing stands; 0 is never after TIME, so it means "not".
    private final int[] neighbourTill = new int[ROUTERS];
    private final int[] membersTill = new int[GROUPS];
    private final int[] joinedTill = new int[GROUPS * BRANCHES];

    // A source may be cut off from time 0 on, so whether it was told needs a bit of its own.
    private final int[] told = new int[GROUPS];
    private final int[] cutFrom = new int[GROUPS * SOURCES];

    public BranchTimes(int me) {
        this.me = Math.max(0, Math.min(ROUTERS - 1, me));
        this.time = 0;
    }

    public int tick(int n) {
        if (n < 1 || n > MOST_TICKS || time + n > LAST_TIME) {
            return NONE;
        }
        time += n;
        return time;
    }

    public boolean hello(int n) {
        if (n < 0 || n >= ROUTERS || n == me) {
            return false;
        }
        neighbourTill[n] = time + NEIGHBOUR_SPAN;
        return true;
    }

    public boolean report(int g) {
        if (!isGroup(g)) {
            return false;
        }
        membersTill[g] = time + MEMBERS_SPAN;
        return true;
    }

    public boolean leave(int g) {
        if (!isGroup(g) || !stands(membersTill[g]) || !isAsking()) {
            return false;
        }
        membersTill[g] = Math.min(membersTill[g], time + LEAVE_SPAN);
        return true;
    }

    public boolean join(int g, int s, int bits) {
        if (!isGroup(g) || !isBranch(s)) {
            return false;
        }
        if (s == NONE) {
            // Must come first: it asks whether * was joined before this join.
            tellCuts(g, bits & ALL_SOURCES);
        }
        joinedTill[branchPlace(g, s)] = time + JOIN_SPAN;
        return true;
    }

    public boolean prune(int g, int s) {
        if (!isGroup(g) || !isBranch(s)) {
            return false;
        }
        int place = branchPlace(g, s);
        if (!stands(joinedTill[place])) {
            return false;
        }
        joinedTill[place] = Math.min(joinedTill[place], timeOfEffect());
        return true;
    }

    public void forget() {
        Arrays.fill(neighbourTill, 0);
        Arrays.fill(membersTill, 0);
        Arrays.fill(joinedTill, 0);
        Arrays.fill(told, 0);
        Arrays.fill(cutFrom, 0);
    }

    public int joined(int g, int s) {
        if (!isGroup(g) || !isBranch(s)) {
            return NONE;
        }
        return tillOrZero(joinedTill[branchPlace(g, s)]);
    }

    public int cut(int g, int s) {
        if (!isGroup(g) || !isSource(s)) {
            return NONE;
        }
        if (!isJoinedForStar(g) || !hasBit(told[g], s)) {
            return 0;
        }
        return cutFrom[cutPlace(g, s)];
    }

    public int members(int g) {
        if (!isGroup(g)) {
            return NONE;
        }
        return tillOrZero(membersTill[g]);
    }

    public int goes(int g) {
        if (!isGroup(g)) {
            return NONE;
        }
        return sourcesThatGo(g);
    }

    public int look(int what) {
        switch (what) {
            case 0:
                return time;
            case 1:
                return neighbourBits();
            case 2:
                return oneIf(isFirst());
            case 3:
                return oneIf(isAsking());
            case 4:
                return oneIf(isCrowded());
            case 5:
                return me;
            case 6:
                return groupsThatGo();
            case 7:
                return countJoined();
            default:
                return NONE;
        }
    }

    private static boolean isGroup(int g) {
        return g >= 0 && g < GROUPS;
    }

    private static boolean isSource(int s) {
        return s >= 0 && s < SOURCES;
    }

    private static boolean isBranch(int s) {
        return s == NONE || isSource(s);
    }

    private static int branchPlace(int g, int s) {
        return g * BRANCHES + (s == NONE ? STAR : s);
    }

    private static int cutPlace(int g, int s) {
        return g * SOURCES + s;
    }

    private static boolean hasBit(int bits, int place) {
        return (bits >> place & 1) != 0;
    }

    private static int oneIf(boolean holds) {
        return holds ? 1 : 0;
    }

    private boolean stands(int till) {
        return time < till;
    }

    private int tillOrZero(int till) {
        return stands(till) ? till : 0;
    }

    private int neighbourBits() {
        int bits = 0;
        for (int n = 0; n < ROUTERS; n++) {
            if (stands(neighbourTill[n])) {
                bits |= 1 << n;
            }
        }
        return bits;
    }

    private boolean isFirst() {
        return neighbourBits() >> me + 1 == 0;
    }

    private boolean isAsking() {
        int lesser = (1 << me) - 1;
        return (neighbourBits() & lesser) == 0;
    }

    private boolean isCrowded() {
        return Integer.bitCount(neighbourBits()) >= 2;
    }

    // On a crowded port another neighbour may still object, so what ends a flow waits there.
    private int timeOfEffect() {
        return isCrowded() ? time + CROWDED_SPAN : time;
    }

    private boolean isJoinedForStar(int g) {
        return stands(joinedTill[branchPlace(g, NONE)]);
    }

    private void tellCuts(int g, int bits) {
        int toldBefore = isJoinedForStar(g) ? told[g] : 0;
        int fresh = bits & ~toldBefore;
        int from = timeOfEffect();
        for (int s = 0; s < SOURCES; s++) {
            if (hasBit(fresh, s)) {
                cutFrom[cutPlace(g, s)] = from;
            }
        }
        told[g] = bits;
    }

    private boolean isCutOff(int g, int s) {
        return hasBit(told[g], s) && time >= cutFrom[cutPlace(g, s)];
    }

    private int sourcesThatGo(int g) {
        if (stands(membersTill[g]) && isFirst()) {
            return ALL_SOURCES;
        }
        boolean forStar = isJoinedForStar(g);
        int bits = 0;
        for (int s = 0; s < SOURCES; s++) {
            if (forStar && !isCutOff(g, s) || stands(joinedTill[branchPlace(g, s)])) {
                bits |= 1 << s;
            }
        }
        return bits;
    }

    private int groupsThatGo() {
        int bits = 0;
        for (int g = 0; g < GROUPS; g++) {
            if (sourcesThatGo(g) != 0) {
                bits |= 1 << g;
            }
        }
        return bits;
    }

    private int countJoined() {
        int count = 0;
        for (int place = 0; place < GROUPS * BRANCHES; place++) {
            if (stands(joinedTill[place])) {
                count++;
            }
        }
        return count;
    }
}
