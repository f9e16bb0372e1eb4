/** What the tests by hand have in common: short names, and the questions that they ask again and again. */
abstract class Kit {
    static final int READ = SplitFabric.READ;
    static final int WRITE = SplitFabric.WRITE;
    static final int LOCK = SplitFabric.LOCK;
    static final int UNLOCK = SplitFabric.UNLOCK;
    static final int BARRIER = SplitFabric.BARRIER;
    static final int FREE = SplitFabric.FREE;
    static final int WAITING = SplitFabric.WAITING;
    static final int GRANTED = SplitFabric.GRANTED;
    static final int DONE = SplitFabric.DONE;
    static final int FAILED = SplitFabric.FAILED;
    static final int NONE = SplitFabric.NONE;
    /** No master, no tag and no data word: there are four of each. */
    static final int[] NO_MASTER = {-1, 4, Integer.MIN_VALUE, Integer.MAX_VALUE};
    static final int[] NO_TARGET = {-1, 3, Integer.MIN_VALUE, Integer.MAX_VALUE};

    static SplitFabric readyFabric() {
        SplitFabric x = new SplitFabric();
        for (int target = 0; target < 3; target++) {
            x.ready(target, true);
        }
        return x;
    }

    /** No target is ready; four requests of master 3 have all credits of one, and the next turn is master 0's. */
    static SplitFabric fullFabric(int target) {
        SplitFabric x = new SplitFabric();
        useUpCredits(x, target);
        return x;
    }

    static void useUpCredits(SplitFabric x, int target) {
        for (int tag = 0; tag < 4; tag++) {
            x.issue(3, READ, 16 * target + 12 + tag, 1, tag);
            x.cycle();
        }
    }

    /** By tag 3 of master 3, which must be free: all targets must be ready, and nothing else may wait. */
    static void write(SplitFabric x, int address, int word) {
        x.data(3, 0, word);
        x.issue(3, WRITE, address, 1, 3);
        x.cycles(2);
        x.take(3, 3);
    }

    static void dueCycles(String where, SplitFabric x, int... granted) {
        for (int i = 0; i < granted.length; i++) {
            Check.due(where + ", cycle " + i, granted[i], x::cycle);
        }
    }

    static void dueState(String where, SplitFabric x, int master, int tag, int want) {
        Check.due(where + ", state(" + master + ", " + tag + ")", want, () -> x.state(master, tag));
    }

    static void dueWord(String where, SplitFabric x, int master, int tag, int i, int want) {
        Check.due(where + ", word(" + master + ", " + tag + ", " + i + ")", want, () -> x.word(master, tag, i));
    }

    static void dueWaits(String where, SplitFabric x, int master, int want) {
        Check.due(where + ", waits(" + master + ")", want, () -> x.waits(master));
    }

    static void dueCredits(String where, SplitFabric x, int target, int want) {
        Check.due(where + ", credits(" + target + ")", want, () -> x.credits(target));
    }

    static void dueHolder(String where, SplitFabric x, int target, int want) {
        Check.due(where + ", holder(" + target + ")", want, () -> x.holder(target));
    }

    static void dueMemory(String where, SplitFabric x, int address, int want) {
        Check.due(where + ", memory(" + address + ")", want, () -> x.memory(address));
    }

    static void dueServed(String where, SplitFabric x, int want) {
        Check.due(where + ", served()", want, x::served);
    }

    static void dueService(String where, SplitFabric x, int i, int what, int want) {
        Check.due(where + ", service(" + i + ", " + what + ")", want, () -> x.service(i, what));
    }

    static void dueTime(String where, SplitFabric x, int want) {
        Check.due(where + ", time()", want, x::time);
    }
}
