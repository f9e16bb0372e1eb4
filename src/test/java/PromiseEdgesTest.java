/** The edges that promises 1 to 18 name: too small, too large, none, all, and every call that is refused. */
public final class PromiseEdgesTest extends Kit {
    private static final int[] NO_KIND = {-1, 5, Integer.MIN_VALUE, Integer.MAX_VALUE};
    private static final int[] NO_ADDRESS = {-1, 64, Integer.MIN_VALUE, Integer.MAX_VALUE};
    private static final int[] NO_LENGTH = {-1, 0, 5, Integer.MIN_VALUE, Integer.MAX_VALUE};

    public static void main(String[] args) {
        newObject();
        newObjectsShareNothing();
        dataOfIssuedRequests();
        dataIndexes();
        issueIndexes();
        issueKinds();
        issueAddresses();
        issueLengths();
        issueLockLengths();
        issueOverABorder();
        issueTagNotFree();
        lockWhileHolding();
        lockWhileALockWaits();
        unlockOfWhatIsNotHeld();
        unlockWhileAnUnlockWaits();
        issueFirstExceptionWins();
        readyFromNowOn();
        readyIndexes();
        cycleTellsTheMaster();
        cycleTellsNone();
        cyclesFrom1To100();
        cyclesCountsGrants();
        timeCountsCycles();
        stateOfEachKind();
        stateIndexes();
        wordOfWhatWasRead();
        wordIndexes();
        wordOfATagNotDone();
        wordOfOtherKinds();
        takeFrees();
        takeOfAnOpenTag();
        takeIndexes();
        baseOfWaitingOnes();
        baseFrom0To2();
        waitsOfTheFirst();
        waitsWithoutAny();
        waitsIndexes();
        resetGivesUp();
        resetHoldsNoMore();
        resetLeavesGranted();
        resetIndexes();
        creditsFrom0To4();
        creditsIndexes();
        holderOrNone();
        holderIndexes();
        memoryFrom0To47();
        servedCounts();
        serviceTells();
        serviceIndexes();
        serviceWhats();
        Check.end();
    }

    // Promise 1

    private static void newObject() {
        Check.sentence("As said; no cycle was done.");
        SplitFabric x = new SplitFabric();
        dueTime("new", x, 0);
        dueServed("new", x, 0);
        for (int master = 0; master < 4; master++) {
            dueWaits("new", x, master, NONE);
        }
        for (int target = 0; target < 3; target++) {
            dueCredits("new", x, target, 4);
            dueHolder("new", x, target, NONE);
        }
        dueCycles("nothing to do", x, NONE);
    }

    private static void newObjectsShareNothing() {
        Check.sentence("As said; no cycle was done.");
        SplitFabric x = readyFabric();
        x.data(0, 0, 9);
        x.base(0, 2);
        x.issue(0, WRITE, 0, 1, 0);
        x.issue(0, LOCK, 20, 1, 1);
        x.cycles(9);
        SplitFabric y = new SplitFabric();
        dueTime("a second object", y, 0);
        dueServed("a second object", y, 0);
        dueMemory("a second object", y, 0, 0);
        dueHolder("a second object", y, 1, NONE);
        dueState("a second object", y, 0, 0, FREE);
        dueMemory("the first one stays", x, 0, 9);
        dueHolder("the first one stays", x, 1, 0);
    }

    // Promise 2

    private static void dataOfIssuedRequests() {
        Check.sentence("A DATA word of a master (requests that were issued keep those of before).");
        SplitFabric x = readyFabric();
        x.data(3, 3, 30);
        x.data(3, 3, 31);
        x.issue(3, WRITE, 44, 4, 0);
        x.data(3, 3, 32);
        x.data(2, 3, 33);
        x.issue(3, WRITE, 40, 4, 1);
        x.cycles(4);
        dueMemory("the last one before the issue", x, 47, 31);
        dueMemory("the one behind it, and no other master's", x, 43, 32);
        dueMemory("a word beside", x, 42, 0);
    }

    private static void dataIndexes() {
        Check.sentence("A DATA word of a master (requests that were issued keep those of before). IndexOutOfBounds.");
        SplitFabric x = new SplitFabric();
        for (int bad : NO_MASTER) {
            Check.badIndex("master " + bad, () -> x.data(bad, 0, 1));
            Check.badIndex("word " + bad, () -> x.data(0, bad, 1));
            Check.badIndex("master and word " + bad, () -> x.data(bad, bad, 1));
        }
        for (int good = 0; good < 4; good++) {
            int n = good;
            Check.fine("master " + n, () -> x.data(n, 0, 1));
            Check.fine("word " + n, () -> x.data(0, n, 1));
        }
    }

    // Promise 3

    /** A fabric whose master 0 holds target 0, so that even an unlock of its words is fine. */
    private static SplitFabric heldFabric() {
        SplitFabric x = readyFabric();
        x.issue(0, LOCK, 0, 1, 3);
        x.cycles(2);
        x.take(0, 3);
        return x;
    }

    private static SplitFabric fabricFor(int kind) {
        return kind == UNLOCK ? heldFabric() : new SplitFabric();
    }

    private static void issueIndexes() {
        Check.sentence("A request. IndexOutOfBounds");
        for (int kind = READ; kind <= BARRIER; kind++) {
            int k = kind;
            SplitFabric x = fabricFor(kind);
            for (int bad : NO_MASTER) {
                Check.badIndex("master " + bad, () -> x.issue(bad, k, 5, 1, 0));
                Check.badIndex("tag " + bad, () -> x.issue(0, k, 5, 1, bad));
            }
            Check.fine("kind " + k, () -> x.issue(0, k, 5, 1, 3));
        }
    }

    private static void issueKinds() {
        Check.sentence("IllegalArgument: the kind is not 0 .. 4");
        SplitFabric x = new SplitFabric();
        for (int bad : NO_KIND) {
            Check.badArgument("kind " + bad, () -> x.issue(0, bad, 0, 1, 0));
        }
        for (int kind = 0; kind <= 4; kind++) {
            int k = kind;
            SplitFabric y = fabricFor(kind);
            Check.fine("kind " + k, () -> y.issue(0, k, 0, 1, 0));
        }
    }

    private static void issueAddresses() {
        Check.sentence("or, but for a BARRIER, the address is not 0 .. 63");
        for (int kind = READ; kind <= UNLOCK; kind++) {
            int k = kind;
            SplitFabric x = fabricFor(kind);
            for (int bad : NO_ADDRESS) {
                Check.badArgument("kind " + k + " at " + bad, () -> x.issue(0, k, bad, 1, 0));
            }
            Check.fine("kind " + k + " at 0", () -> x.issue(0, k, 0, 1, 0));
            if (kind != UNLOCK) {
                Check.fine("kind " + k + " at 63", () -> x.issue(1, k, 63, 1, 0));
            }
        }
        SplitFabric x = new SplitFabric();
        for (int i = 0; i < NO_ADDRESS.length; i++) {
            int n = i;
            Check.fine("a barrier at " + NO_ADDRESS[n], () -> x.issue(0, BARRIER, NO_ADDRESS[n], 1, n));
        }
    }

    private static void issueLengths() {
        Check.sentence("the length not 1 .. 4");
        for (int kind = READ; kind <= WRITE; kind++) {
            int k = kind;
            SplitFabric x = new SplitFabric();
            for (int bad : NO_LENGTH) {
                for (int address : new int[] {0, 8, 15, 63}) {
                    Check.badArgument("kind " + k + " of " + bad, () -> x.issue(0, k, address, bad, 0));
                }
            }
            for (int length = 1; length <= 4; length++) {
                int l = length;
                Check.fine("kind " + k + " of " + l, () -> x.issue(0, k, 8, l, l - 1));
            }
        }
        SplitFabric x = new SplitFabric();
        for (int i = 0; i < 4; i++) {
            int n = i;
            Check.fine("a barrier of " + NO_LENGTH[n], () -> x.issue(0, BARRIER, 0, NO_LENGTH[n], n));
        }
    }

    private static void issueLockLengths() {
        Check.sentence("(not 1 for LOCK and UNLOCK)");
        for (int kind = LOCK; kind <= UNLOCK; kind++) {
            int k = kind;
            SplitFabric x = fabricFor(kind);
            for (int bad : new int[] {Integer.MIN_VALUE, -1, 0, 2, 3, 4, 5, Integer.MAX_VALUE}) {
                Check.badArgument("kind " + k + " of " + bad, () -> x.issue(0, k, 8, bad, 0));
            }
            Check.fine("kind " + k + " of 1", () -> x.issue(0, k, 8, 1, 0));
        }
    }

    private static void issueOverABorder() {
        Check.sentence("or not all words are of the same target, or unmapped");
        for (int border = 16; border <= 64; border += 16) {
            for (int length = 2; length <= 4; length++) {
                for (int over = 1; over < length; over++) {
                    int address = border - length + over;
                    int l = length;
                    SplitFabric x = new SplitFabric();
                    Check.badArgument(l + " words from " + address, () -> x.issue(0, READ, address, l, 0));
                    Check.badArgument(l + " words from " + address, () -> x.issue(0, WRITE, address, l, 0));
                }
                int l = length;
                int last = border - length;
                SplitFabric x = new SplitFabric();
                Check.fine(l + " words up to the border", () -> x.issue(0, READ, last, l, 0));
                Check.fine(l + " words up to the border", () -> x.issue(0, WRITE, last, l, 1));
            }
        }
    }

    private static void issueTagNotFree() {
        Check.sentence("IllegalState: the tag is not FREE");
        int[] kinds = {READ, WRITE, LOCK, BARRIER};
        for (int kind : kinds) {
            SplitFabric x = new SplitFabric();
            x.issue(0, READ, 0, 1, 0);
            Check.badState("WAITING, kind " + kind, () -> x.issue(0, kind, 20, 1, 0));
            x.cycle();
            Check.badState("GRANTED, kind " + kind, () -> x.issue(0, kind, 20, 1, 0));
            x.ready(0, true);
            x.cycle();
            Check.badState("DONE, kind " + kind, () -> x.issue(0, kind, 20, 1, 0));
            x.take(0, 0);
            x.issue(0, READ, 50, 1, 0);
            x.cycle();
            Check.badState("FAILED, kind " + kind, () -> x.issue(0, kind, 20, 1, 0));
            x.take(0, 0);
            Check.fine("FREE again, kind " + kind, () -> x.issue(0, kind, 20, 1, 0));
            x.reset(0);
            Check.fine("FREE by a reset, kind " + kind, () -> x.issue(0, kind, 20, 1, 0));
        }
        SplitFabric x = heldFabric();
        x.issue(0, READ, 60, 1, 1);
        Check.badState("WAITING, for an unlock", () -> x.issue(0, UNLOCK, 0, 1, 1));
        Check.fine("FREE, for an unlock", () -> x.issue(0, UNLOCK, 0, 1, 2));
    }

    private static void lockWhileHolding() {
        Check.sentence("for a LOCK: the master holds a target");
        for (int target = 0; target < 3; target++) {
            SplitFabric x = readyFabric();
            x.issue(1, LOCK, 16 * target, 1, 0);
            x.cycles(2);
            for (int address : new int[] {0, 15, 16, 31, 32, 47, 48, 63}) {
                Check.badState("holds " + target + ", lock at " + address, () -> x.issue(1, LOCK, address, 1, 1));
            }
            int address = 16 * target;
            Check.fine("another master may wait for it", () -> x.issue(2, LOCK, address, 1, 1));
            x.issue(1, UNLOCK, address, 1, 1);
            Check.badState("its unlock is WAITING", () -> x.issue(1, LOCK, 0, 1, 2));
            x.cycle();
            Check.fine("its unlock is GRANTED", () -> x.issue(1, LOCK, 0, 1, 2));
        }
        SplitFabric x = heldFabric();
        x.reset(0);
        Check.fine("it was reset", () -> x.issue(0, LOCK, 0, 1, 0));
    }

    private static void lockWhileALockWaits() {
        Check.sentence("or has a LOCK that is WAITING");
        for (int waiting : new int[] {5, 20, 40, 50}) {
            SplitFabric x = new SplitFabric();
            x.issue(2, LOCK, waiting, 1, 3);
            for (int address : new int[] {5, 20, 40, 50}) {
                Check.badState("waits at " + waiting + ", lock at " + address, () -> x.issue(2, LOCK, address, 1, 0));
            }
            Check.fine("of another master", () -> x.issue(1, LOCK, waiting, 1, 3));
            Check.fine("no lock", () -> x.issue(2, READ, waiting, 1, 1));
            x.reset(2);
            Check.fine("it was given up", () -> x.issue(2, LOCK, waiting, 1, 3));
        }
        SplitFabric x = new SplitFabric();
        x.issue(2, LOCK, 60, 1, 3);
        x.cycle();
        Check.fine("it has FAILED", () -> x.issue(2, LOCK, 5, 1, 0));
        x.cycle();
        x.reset(2);
        dueState("granted", x, 2, 0, GRANTED);
        Check.fine("it is GRANTED, but the master was reset", () -> x.issue(2, LOCK, 5, 1, 1));
    }

    private static void unlockOfWhatIsNotHeld() {
        Check.sentence("for an UNLOCK: the master does not hold that target");
        int[] edges = {0, 15, 16, 31, 32, 47, 48, 63};
        SplitFabric x = readyFabric();
        for (int address : edges) {
            Check.badState("nobody holds it, " + address, () -> x.issue(1, UNLOCK, address, 1, 0));
        }
        x.issue(1, LOCK, 16, 1, 0);
        Check.badState("its lock is WAITING", () -> x.issue(1, UNLOCK, 16, 1, 1));
        x.cycle();
        for (int address : edges) {
            if (address < 16 || address > 31) {
                Check.badState("it holds another one, " + address, () -> x.issue(1, UNLOCK, address, 1, 1));
            }
            Check.badState("another master, " + address, () -> x.issue(0, UNLOCK, address, 1, 1));
        }
        Check.fine("its last word", () -> x.issue(1, UNLOCK, 31, 1, 1));
        x.cycle();
        Check.badState("its unlock is GRANTED", () -> x.issue(1, UNLOCK, 31, 1, 2));
        SplitFabric y = heldFabric();
        y.reset(0);
        Check.badState("it was reset", () -> y.issue(0, UNLOCK, 0, 1, 0));
    }

    private static void unlockWhileAnUnlockWaits() {
        Check.sentence("or has an UNLOCK that is WAITING");
        SplitFabric x = heldFabric();
        x.issue(0, UNLOCK, 3, 1, 0);
        Check.badState("the same word", () -> x.issue(0, UNLOCK, 3, 1, 1));
        Check.badState("another word", () -> x.issue(0, UNLOCK, 4, 1, 1));
        x.cycle();
        x.issue(0, LOCK, 5, 1, 1);
        x.cycle();
        dueHolder("locked anew", x, 0, 0);
        Check.fine("the unlock of before waits no more", () -> x.issue(0, UNLOCK, 3, 1, 2));
    }

    private static void issueFirstExceptionWins() {
        Check.sentence("where it lists more than one exception, the first one wins");
        SplitFabric x = new SplitFabric();
        x.issue(0, READ, 0, 1, 0);
        Check.badIndex("no master, no kind", () -> x.issue(4, 5, 0, 1, 0));
        Check.badIndex("no tag, no kind", () -> x.issue(0, 5, 0, 1, 4));
        Check.badIndex("no tag, no address", () -> x.issue(0, READ, 64, 1, -1));
        Check.badIndex("no master, no length", () -> x.issue(-1, READ, 0, 5, 0));
        Check.badIndex("no tag, not held", () -> x.issue(0, UNLOCK, 0, 1, 4));
        Check.badArgument("no kind, tag not FREE", () -> x.issue(0, 5, 0, 1, 0));
        Check.badArgument("no address, tag not FREE", () -> x.issue(0, READ, 64, 1, 0));
        Check.badArgument("no length, tag not FREE", () -> x.issue(0, READ, 0, 5, 0));
        Check.badArgument("over a border, tag not FREE", () -> x.issue(0, READ, 15, 2, 0));
        Check.badArgument("no length, not held", () -> x.issue(0, UNLOCK, 0, 2, 1));
        x.issue(0, LOCK, 0, 1, 1);
        Check.badArgument("no length, a lock is WAITING", () -> x.issue(0, LOCK, 0, 2, 2));
        Check.badState("a barrier has neither, tag not FREE", () -> x.issue(0, BARRIER, 64, 5, 0));
        Check.badIndex("base: no master, no class", () -> x.base(4, 3));
        Check.badIndex("service: none such, no what", () -> x.service(0, 6));
        Check.badIndex("word: no master, FREE", () -> x.word(4, 0, 0));
        Check.badIndex("word: no tag, FREE", () -> x.word(0, 4, 0));
        Check.badIndex("word: no word, FREE", () -> x.word(0, 3, 4));
        Check.badIndex("take: no tag", () -> x.take(0, 4));
    }

    // Promise 4

    private static void readyFromNowOn() {
        Check.sentence("A target is READY, or not, from now on.");
        for (int target = 0; target < 3; target++) {
            SplitFabric x = new SplitFabric();
            useUpCredits(x, target);
            int t = target;
            x.ready(t, true);
            dueServed("not by the call itself", x, 0);
            x.cycles(2);
            dueServed("from now on", x, 2);
            x.ready(t, false);
            x.cycles(50);
            dueServed("no more", x, 2);
            x.ready(t, true);
            x.ready(t, true);
            x.cycle();
            dueServed("said twice, served once", x, 3);
            x.ready(t, false);
            x.ready((t + 1) % 3, true);
            x.ready((t + 2) % 3, true);
            x.cycles(5);
            dueServed("the others are not this one", x, 3);
        }
    }

    private static void readyIndexes() {
        Check.sentence("A target is READY, or not, from now on. IndexOutOfBounds.");
        SplitFabric x = new SplitFabric();
        for (int bad : NO_TARGET) {
            Check.badIndex("target " + bad, () -> x.ready(bad, true));
            Check.badIndex("target " + bad, () -> x.ready(bad, false));
        }
        for (int target = 0; target < 3; target++) {
            int t = target;
            Check.fine("target " + t, () -> x.ready(t, false));
        }
    }

    // Promise 5

    private static void cycleTellsTheMaster() {
        Check.sentence("A CYCLE: the master that was granted (for a BARRIER, or what is unmapped, too)");
        for (int master = 0; master < 4; master++) {
            SplitFabric x = new SplitFabric();
            x.issue(master, READ, 0, 1, 0);
            dueCycles("a read", x, master, NONE);
            x.issue(master, WRITE, 63, 1, 1);
            dueCycles("what is unmapped", x, master, NONE);
            SplitFabric y = new SplitFabric();
            y.issue(master, BARRIER, 0, 0, 3);
            dueCycles("a barrier", y, master, NONE);
        }
    }

    private static void cycleTellsNone() {
        Check.sentence("NONE if none was");
        SplitFabric x = new SplitFabric();
        dueCycles("nothing was issued", x, NONE);
        useUpCredits(x, 0);
        x.issue(0, READ, 0, 1, 0);
        dueCycles("none is eligible", x, NONE);
        x.reset(0);
        dueCycles("it was given up", x, NONE);
        dueTime("they are cycles, too", x, 7);
    }

    // Promise 6

    private static void cyclesFrom1To100() {
        Check.sentence("IllegalArgument: n is not 1 .. 100.");
        SplitFabric x = new SplitFabric();
        for (int bad : new int[] {Integer.MIN_VALUE, -100, -1, 0, 101, 200, Integer.MAX_VALUE}) {
            Check.badArgument("cycles(" + bad + ")", () -> x.cycles(bad));
        }
        dueTime("no cycle was done", x, 0);
        Check.due("cycles(1)", 0, () -> x.cycles(1));
        dueTime("one", x, 1);
        Check.due("cycles(100)", 0, () -> x.cycles(100));
        dueTime("and a hundred", x, 101);
    }

    private static void cyclesCountsGrants() {
        Check.sentence("So many CYCLES: how many grants there were.");
        SplitFabric x = new SplitFabric();
        Check.due("none", 0, () -> x.cycles(5));
        x.issue(0, READ, 0, 1, 0);
        x.issue(0, BARRIER, 0, 0, 1);
        x.issue(1, WRITE, 63, 1, 0);
        x.issue(1, READ, 5, 1, 1);
        Check.due("no more than cycles", 2, () -> x.cycles(2));
        Check.due("those that are eligible", 1, () -> x.cycles(50));
        x.ready(0, true);
        Check.due("a barrier, too", 1, () -> x.cycles(50));
        for (int n = 0; n < 4; n++) {
            x.issue(2, READ, 60, 1, n);
            x.issue(3, READ, 61, 1, n);
        }
        Check.due("a grant in every cycle", 8, () -> x.cycles(8));
        Check.due("none is left", 0, () -> x.cycles(8));
    }

    // Promise 7

    private static void timeCountsCycles() {
        Check.sentence("How many cycles were done.");
        SplitFabric x = readyFabric();
        x.issue(0, READ, 0, 1, 0);
        dueTime("none yet", x, 0);
        x.cycle();
        dueTime("one", x, 1);
        x.cycles(100);
        dueTime("a hundred more", x, 101);
        x.take(0, 0);
        x.reset(0);
        dueTime("a reset is no new beginning", x, 101);
    }

    // Promise 8

    private static void stateOfEachKind() {
        Check.sentence("FREE .. FAILED.");
        SplitFabric x = new SplitFabric();
        dueState("0", x, 2, 2, 0);
        x.issue(2, READ, 0, 1, 2);
        dueState("1", x, 2, 2, 1);
        x.cycle();
        dueState("2", x, 2, 2, 2);
        x.ready(0, true);
        x.cycle();
        dueState("3", x, 2, 2, 3);
        x.issue(2, READ, 60, 1, 3);
        x.cycle();
        dueState("4", x, 2, 3, 4);
        dueState("the other stays", x, 2, 2, 3);
    }

    private static void stateIndexes() {
        Check.sentence("FREE .. FAILED. IndexOutOfBounds.");
        SplitFabric x = new SplitFabric();
        for (int bad : NO_MASTER) {
            Check.badIndex("master " + bad, () -> x.state(bad, 0));
            Check.badIndex("tag " + bad, () -> x.state(0, bad));
            Check.badIndex("tag of the last master " + bad, () -> x.state(3, bad));
        }
        dueState("the last tag of the last master", x, 3, 3, FREE);
    }

    // Promise 9

    private static void wordOfWhatWasRead() {
        Check.sentence("IllegalState: the tag is not DONE with a READ or LOCK that has so many words.");
        SplitFabric x = readyFabric();
        for (int i = 0; i < 4; i++) {
            write(x, 28 + i, 80 + i);
        }
        for (int length = 1; length <= 4; length++) {
            int tag = length - 1;
            x.issue(0, READ, 28, length, tag);
            x.cycles(1 + length);
            for (int i = 0; i < 4; i++) {
                int n = i;
                if (i < length) {
                    dueWord("of " + length, x, 0, tag, i, 80 + i);
                } else {
                    Check.badState("word " + n + " of " + length, () -> x.word(0, tag, n));
                }
            }
        }
        x.issue(1, LOCK, 31, 1, 0);
        x.cycles(2);
        dueWord("of a lock", x, 1, 0, 0, 83);
        for (int i = 1; i < 4; i++) {
            int n = i;
            Check.badState("word " + n + " of a lock", () -> x.word(1, 0, n));
        }
    }

    private static void wordIndexes() {
        Check.sentence("IndexOutOfBounds, also if i is not 0 .. 3");
        SplitFabric x = readyFabric();
        x.issue(0, READ, 0, 4, 0);
        x.cycles(5);
        for (int bad : NO_MASTER) {
            Check.badIndex("master " + bad, () -> x.word(bad, 0, 0));
            Check.badIndex("tag " + bad, () -> x.word(0, bad, 0));
            Check.badIndex("word " + bad + " of one that is DONE", () -> x.word(0, 0, bad));
            Check.badIndex("word " + bad + " of one that is FREE", () -> x.word(0, 1, bad));
        }
        dueWord("the last one", x, 0, 0, 3, 0);
    }

    private static void wordOfATagNotDone() {
        Check.sentence("IllegalState: the tag is not DONE with a READ or LOCK");
        SplitFabric x = new SplitFabric();
        Check.badState("FREE", () -> x.word(0, 0, 0));
        x.issue(0, READ, 0, 2, 0);
        Check.badState("WAITING", () -> x.word(0, 0, 0));
        x.cycle();
        Check.badState("GRANTED", () -> x.word(0, 0, 0));
        x.ready(0, true);
        x.cycle();
        Check.badState("GRANTED, though that word is back", () -> x.word(0, 0, 0));
        x.cycle();
        dueWord("DONE", x, 0, 0, 0, 0);
        x.take(0, 0);
        Check.badState("FREE again", () -> x.word(0, 0, 0));
        x.issue(0, READ, 60, 2, 0);
        x.cycle();
        Check.badState("FAILED", () -> x.word(0, 0, 0));
    }

    private static void wordOfOtherKinds() {
        Check.sentence("IllegalState: the tag is not DONE with a READ or LOCK");
        SplitFabric x = heldFabric();
        x.issue(0, WRITE, 20, 4, 0);
        x.issue(0, UNLOCK, 0, 1, 1);
        x.cycles(4);
        x.issue(0, BARRIER, 0, 4, 2);
        x.cycle();
        for (int tag = 0; tag < 3; tag++) {
            int t = tag;
            dueState("done", x, 0, t, DONE);
            Check.badState("of a write, an unlock, a barrier: " + t, () -> x.word(0, t, 0));
        }
    }

    // Promise 10

    private static void takeFrees() {
        Check.sentence("The tag is FREE again: whether it was DONE (and had not FAILED).");
        SplitFabric x = heldFabric();
        x.issue(0, WRITE, 20, 1, 0);
        x.issue(0, UNLOCK, 0, 1, 1);
        x.issue(0, READ, 21, 1, 2);
        x.issue(0, READ, 50, 1, 3);
        x.issue(1, BARRIER, 0, 0, 0);
        x.issue(1, LOCK, 40, 1, 1);
        x.cycles(20);
        for (int tag = 0; tag < 4; tag++) {
            int t = tag;
            Check.due("tag " + t, t != 3, () -> x.take(0, t));
            dueState("taken", x, 0, t, FREE);
        }
        Check.due("a barrier", true, () -> x.take(1, 0));
        Check.due("a lock", true, () -> x.take(1, 1));
        dueHolder("taking a lock's tag is no unlock", x, 2, 1);
    }

    private static void takeOfAnOpenTag() {
        Check.sentence("IllegalState: it is neither DONE nor has it FAILED.");
        SplitFabric x = new SplitFabric();
        Check.badState("FREE", () -> x.take(0, 0));
        x.issue(0, READ, 0, 2, 0);
        Check.badState("WAITING", () -> x.take(0, 0));
        x.cycle();
        Check.badState("GRANTED", () -> x.take(0, 0));
        x.ready(0, true);
        x.cycle();
        Check.badState("one word of two", () -> x.take(0, 0));
        x.cycle();
        Check.due("DONE", true, () -> x.take(0, 0));
        Check.badState("taken", () -> x.take(0, 0));
        x.issue(0, READ, 50, 1, 0);
        x.cycle();
        Check.due("FAILED", false, () -> x.take(0, 0));
        Check.badState("taken", () -> x.take(0, 0));
    }

    private static void takeIndexes() {
        Check.sentence("The tag is FREE again: whether it was DONE (and had not FAILED). IndexOutOfBounds");
        SplitFabric x = new SplitFabric();
        x.issue(3, READ, 60, 1, 3);
        x.cycle();
        for (int bad : NO_MASTER) {
            Check.badIndex("master " + bad, () -> x.take(bad, 3));
            Check.badIndex("tag " + bad, () -> x.take(3, bad));
        }
        Check.due("the last tag of the last master", false, () -> x.take(3, 3));
    }

    // Promise 11

    private static void baseOfWaitingOnes() {
        Check.sentence("The base class of a master (for requests that wait, too).");
        SplitFabric x = new SplitFabric();
        for (int tag = 0; tag < 2; tag++) {
            x.issue(0, READ, 48 + tag, 1, tag);
            x.issue(3, READ, 48 + tag, 1, tag);
        }
        x.base(3, 1);
        dueCycles("raised", x, 3);
        x.base(0, 2);
        dueCycles("another one raised above", x, 0);
        x.base(0, 0);
        dueCycles("lowered", x, 3, 0, NONE);
    }

    private static void baseFrom0To2() {
        Check.sentence("IllegalArgument: not 0 .. 2.");
        SplitFabric x = new SplitFabric();
        for (int bad : new int[] {Integer.MIN_VALUE, -1, 3, Integer.MAX_VALUE}) {
            Check.badArgument("class " + bad, () -> x.base(0, bad));
        }
        for (int bad : NO_MASTER) {
            Check.badIndex("master " + bad, () -> x.base(bad, 0));
        }
        for (int c = 0; c <= 2; c++) {
            int good = c;
            Check.fine("class " + good, () -> x.base(0, good));
            Check.fine("class " + good + " of the last master", () -> x.base(3, good));
        }
    }

    // Promise 12

    private static void waitsOfTheFirst() {
        Check.sentence("How many cycles the WAITING request of a master that was issued first has waited");
        SplitFabric x = fullFabric(0);
        x.issue(1, READ, 0, 1, 3);
        dueWaits("none yet", x, 1, 0);
        x.cycles(10);
        x.issue(1, READ, 1, 1, 0);
        dueWaits("the one issued first, not the first tag", x, 1, 10);
        x.cycles(100);
        dueWaits("a hundred more", x, 1, 110);
        x.ready(0, true);
        x.cycle();
        dueState("the first is granted", x, 1, 3, GRANTED);
        dueWaits("the next one's own", x, 1, 101);
    }

    private static void waitsWithoutAny() {
        Check.sentence("NONE without any.");
        SplitFabric x = readyFabric();
        dueWaits("nothing was issued", x, 2, NONE);
        x.issue(2, READ, 0, 1, 0);
        dueWaits("of another master", x, 1, NONE);
        x.cycle();
        dueWaits("GRANTED", x, 2, NONE);
        x.cycle();
        dueWaits("DONE", x, 2, NONE);
        x.issue(2, READ, 50, 1, 1);
        x.cycle();
        dueWaits("FAILED", x, 2, NONE);
        x.issue(2, READ, 50, 1, 2);
        dueWaits("WAITING", x, 2, 0);
        x.reset(2);
        dueWaits("given up", x, 2, NONE);
    }

    private static void waitsIndexes() {
        Check.sentence("NONE without any. IndexOutOfBounds.");
        SplitFabric x = new SplitFabric();
        for (int bad : NO_MASTER) {
            Check.badIndex("master " + bad, () -> x.waits(bad));
        }
        dueWaits("the first master", x, 0, NONE);
        dueWaits("the last master", x, 3, NONE);
    }

    // Promise 13

    private static void resetGivesUp() {
        Check.sentence("The WAITING requests of a master are given up, their tags FREE");
        SplitFabric x = new SplitFabric();
        Check.due("none", 0, () -> x.reset(2));
        for (int count = 0; count <= 4; count++) {
            int due = count;
            for (int tag = 0; tag < count; tag++) {
                x.issue(2, tag == 2 ? BARRIER : tag == 3 ? LOCK : READ, tag, 1, tag);
                x.issue(1, READ, 60, 1, tag);
            }
            Check.due("so many", due, () -> x.reset(2));
            Check.due("none is left", 0, () -> x.reset(2));
            for (int tag = 0; tag < 4; tag++) {
                dueState("given up", x, 2, tag, FREE);
                dueState("of another master", x, 1, tag, tag < count ? WAITING : FREE);
            }
            x.reset(1);
        }
        dueCycles("nothing is left to grant", x, NONE);
    }

    private static void resetHoldsNoMore() {
        Check.sentence("and it holds no target any more");
        for (int target = 0; target < 3; target++) {
            SplitFabric x = new SplitFabric();
            x.issue(2, LOCK, 16 * target, 1, 0);
            x.issue(1, LOCK, 16 * ((target + 1) % 3), 1, 0);
            x.cycles(2);
            Check.due("nothing is WAITING", 0, () -> x.reset(2));
            dueHolder("it holds no more", x, target, NONE);
            dueHolder("another one holds on", x, (target + 1) % 3, 1);
            dueState("its lock goes on", x, 2, 0, GRANTED);
            int address = 16 * target + 5;
            x.issue(3, READ, address, 1, 0);
            dueCycles("others go", x, 3);
            Check.badState("nothing to unlock", () -> x.issue(2, UNLOCK, address, 1, 1));
            Check.fine("it may lock again", () -> x.issue(2, LOCK, address, 1, 1));
        }
    }

    private static void resetLeavesGranted() {
        Check.sentence("(those GRANTED go on)");
        SplitFabric x = new SplitFabric();
        x.data(2, 0, 44);
        x.issue(2, WRITE, 20, 1, 0);
        x.issue(2, READ, 20, 2, 1);
        x.issue(2, LOCK, 50, 1, 2);
        x.cycles(3);
        x.issue(2, READ, 1, 1, 3);
        Check.due("the one that waits", 1, () -> x.reset(2));
        dueState("GRANTED", x, 2, 0, GRANTED);
        dueState("GRANTED", x, 2, 1, GRANTED);
        dueState("FAILED", x, 2, 2, FAILED);
        dueCredits("their credits stay away", x, 1, 2);
        x.ready(1, true);
        x.cycles(2);
        Check.due("an answer on its way", 0, () -> x.reset(2));
        x.cycle();
        dueState("GRANTED went on", x, 2, 1, DONE);
        dueMemory("GRANTED went on", x, 20, 44);
        dueWord("GRANTED went on", x, 2, 1, 0, 44);
        Check.due("DONE", 0, () -> x.reset(2));
        dueState("DONE", x, 2, 1, DONE);
        dueCredits("all are back", x, 1, 4);
    }

    private static void resetIndexes() {
        Check.sentence("how many were given up. IndexOutOfBounds.");
        SplitFabric x = new SplitFabric();
        x.issue(0, READ, 0, 1, 0);
        x.issue(3, READ, 0, 1, 0);
        for (int bad : NO_MASTER) {
            Check.badIndex("master " + bad, () -> x.reset(bad));
        }
        Check.due("the first master", 1, () -> x.reset(0));
        Check.due("the last master", 1, () -> x.reset(3));
    }

    // Promise 14

    private static void creditsFrom0To4() {
        Check.sentence("How many credits a target has.");
        SplitFabric x = new SplitFabric();
        for (int tag = 0; tag < 4; tag++) {
            dueCredits("before the grant", x, 2, 4 - tag);
            x.issue(0, WRITE, 32 + tag, 1, tag);
            dueCredits("WAITING takes none", x, 2, 4 - tag);
            x.cycle();
        }
        dueCredits("none is left", x, 2, 0);
        x.ready(2, true);
        for (int back = 1; back <= 4; back++) {
            x.cycle();
            dueCredits("come back", x, 2, back);
        }
        x.cycles(10);
        dueCredits("never more than four", x, 2, 4);
    }

    private static void creditsIndexes() {
        Check.sentence("How many credits a target has. IndexOutOfBounds.");
        SplitFabric x = new SplitFabric();
        for (int bad : NO_TARGET) {
            Check.badIndex("target " + bad, () -> x.credits(bad));
        }
        dueCredits("the first target", x, 0, 4);
        dueCredits("the last target", x, 2, 4);
    }

    // Promise 15

    private static void holderOrNone() {
        Check.sentence("The master that holds a target; NONE if nobody does.");
        for (int master = 0; master < 4; master++) {
            SplitFabric x = readyFabric();
            dueHolder("nobody", x, 2, NONE);
            x.issue(master, LOCK, 47, 1, 0);
            x.cycle();
            dueHolder("held", x, 2, master);
            dueHolder("not that one", x, 1, NONE);
            x.issue(master, UNLOCK, 47, 1, 1);
            x.cycle();
            dueHolder("nobody again", x, 2, NONE);
        }
    }

    private static void holderIndexes() {
        Check.sentence("NONE if nobody does. IndexOutOfBounds.");
        SplitFabric x = new SplitFabric();
        for (int bad : NO_TARGET) {
            Check.badIndex("target " + bad, () -> x.holder(bad));
        }
        dueHolder("the first target", x, 0, NONE);
        dueHolder("the last target", x, 2, NONE);
    }

    // Promise 16

    private static void memoryFrom0To47() {
        Check.sentence("The word at an address. IndexOutOfBounds: it is not 0 .. 47.");
        SplitFabric x = readyFabric();
        for (int address : new int[] {0, 15, 16, 31, 32, 47}) {
            write(x, address, 100 + address);
            dueMemory("written", x, address, 100 + address);
        }
        for (int bad : new int[] {Integer.MIN_VALUE, -1, 48, 63, 64, Integer.MAX_VALUE}) {
            Check.badIndex("address " + bad, () -> x.memory(bad));
        }
    }

    // Promise 17

    private static void servedCounts() {
        Check.sentence("How many requests were SERVED.");
        SplitFabric x = new SplitFabric();
        dueServed("none", x, 0);
        x.issue(0, READ, 0, 2, 0);
        x.issue(0, WRITE, 3, 2, 1);
        x.issue(1, READ, 50, 1, 0);
        x.issue(2, BARRIER, 0, 0, 0);
        x.cycles(10);
        dueServed("GRANTED, FAILED, a barrier", x, 0);
        x.ready(0, true);
        x.cycle();
        dueServed("one, though not all its words are back", x, 1);
        x.cycle();
        dueServed("two", x, 2);
        x.take(0, 1);
        x.reset(0);
        x.cycles(10);
        dueServed("never less", x, 2);
    }

    // Promise 18

    private static void serviceTells() {
        Check.sentence("0 its master, 1 its tag, 2 its kind, 3 its address, 4 its length, 5 which cycle it was, from 1 on");
        SplitFabric x = readyFabric();
        x.issue(3, LOCK, 47, 1, 2);
        x.issue(2, WRITE, 12, 4, 3);
        x.cycles(3);
        x.issue(3, UNLOCK, 46, 1, 1);
        x.issue(1, READ, 29, 3, 0);
        x.cycles(3);
        int[][] rows = {{2, 3, WRITE, 12, 4, 2}, {3, 2, LOCK, 47, 1, 3}, {1, 0, READ, 29, 3, 5}, {3, 1, UNLOCK, 46, 1, 6}};
        for (int i = 0; i < 4; i++) {
            for (int what = 0; what <= 5; what++) {
                dueService("told", x, i, what, rows[i][what]);
            }
        }
        x.take(2, 3);
        x.issue(2, READ, 0, 1, 3);
        for (int what = 0; what <= 5; what++) {
            dueService("its tag was used again", x, 0, what, rows[0][what]);
        }
    }

    private static void serviceIndexes() {
        Check.sentence("IndexOutOfBounds: there is none such");
        SplitFabric x = readyFabric();
        for (int what = 0; what <= 5; what++) {
            int w = what;
            Check.badIndex("none was SERVED", () -> x.service(0, w));
        }
        x.issue(0, WRITE, 0, 1, 0);
        x.cycle();
        Check.badIndex("GRANTED only", () -> x.service(0, 0));
        x.cycle();
        dueService("the only one", x, 0, 0, 0);
        for (int bad : new int[] {Integer.MIN_VALUE, -1, 1, 2, Integer.MAX_VALUE}) {
            Check.badIndex("of one, " + bad, () -> x.service(bad, 0));
        }
    }

    private static void serviceWhats() {
        Check.sentence("IllegalArgument: what is not 0 .. 5.");
        SplitFabric x = readyFabric();
        x.issue(0, WRITE, 0, 1, 0);
        x.cycles(2);
        for (int bad : new int[] {Integer.MIN_VALUE, -1, 6, 7, Integer.MAX_VALUE}) {
            Check.badArgument("what " + bad, () -> x.service(0, bad));
            Check.badIndex("none such, what " + bad, () -> x.service(1, bad));
        }
        dueService("the first", x, 0, 0, 0);
        dueService("the last", x, 0, 5, 2);
    }
}
