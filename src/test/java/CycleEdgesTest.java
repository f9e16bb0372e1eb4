/** The edges of a CYCLE: empty and full queues, turns that wrap around, and what comes before what in one cycle. */
public final class CycleEdgesTest extends Kit {
    public static void main(String[] args) {
        noneIsReadyAtFirst();
        emptyQueue();
        firstOfEachTarget();
        firstOfTheQueueLeaves();
        writeIsDoneWithItsService();
        answerIsOfTheService();
        oneWordACycle();
        returnBeginsWithZero();
        returnGoesRoundAndRound();
        returnByOneTagAlone();
        returnByATagUsedAgain();
        returnKeepsItsTurn();
        doneWithTheLastWord();
        everyWordOfAFullFabric();
        greatestClassFirst();
        grantBeginsWithZero();
        grantGoesRoundAndRound();
        grantKeepsItsTurn();
        barrierAndUnmappedTakeTheTurn();
        issuedFirstIsGranted();
        barrierIsDoneAtOnce();
        unmappedFails();
        endOfTheQueue();
        creditComesBackWhenDone();
        creditIsUsedInTheSameCycle();
        heldFromTheGrantOn();
        heldNoMoreFromTheGrantOn();
        waitingOnesAge();
        Check.end();
    }

    // SERVICE

    private static void noneIsReadyAtFirst() {
        Check.sentence("each target, 0 first, that is READY (none is, at first)");
        SplitFabric x = new SplitFabric();
        for (int target = 0; target < 3; target++) {
            x.issue(0, WRITE, 16 * target, 1, target);
        }
        x.cycles(100);
        dueServed("after 100 cycles", x, 0);
        for (int target = 0; target < 3; target++) {
            dueState("granted only", x, 0, target, GRANTED);
        }
    }

    private static void emptyQueue() {
        Check.sentence("and in whose queue some request is");
        SplitFabric x = readyFabric();
        x.cycles(100);
        dueServed("empty queues", x, 0);
        x.issue(0, WRITE, 47, 1, 0);
        x.cycle();
        dueServed("granted behind the service", x, 0);
        x.cycle();
        dueServed("served", x, 1);
        x.cycles(100);
        dueServed("empty again", x, 1);
    }

    /** Master 0 to 2 have four requests each, in the queue of target 0 to 2. */
    private static SplitFabric fullQueues(int kind) {
        SplitFabric x = new SplitFabric();
        for (int target = 0; target < 3; target++) {
            for (int tag = 0; tag < 4; tag++) {
                x.issue(target, kind, 16 * target + 4 * tag, 4, tag);
            }
        }
        x.cycles(12);
        return x;
    }

    private static void readyBackwards(SplitFabric x) {
        for (int target = 2; target >= 0; target--) {
            x.ready(target, true);
        }
    }

    private static void firstOfEachTarget() {
        Check.sentence("each target, 0 first, that is READY");
        SplitFabric x = fullQueues(WRITE);
        readyBackwards(x);
        for (int round = 1; round <= 4; round++) {
            x.cycle();
            dueServed("one of each target a cycle", x, 3 * round);
            for (int target = 0; target < 3; target++) {
                dueService("0 first", x, 3 * round - 3 + target, 3, 16 * target + 4 * round - 4);
                dueService("0 first", x, 3 * round - 3 + target, 5, 12 + round);
            }
        }
        x.cycle();
        dueServed("none is left", x, 12);
        SplitFabric y = fullQueues(WRITE);
        y.ready(1, true);
        y.cycles(2);
        dueServed("only the one that is READY", y, 2);
        dueService("only the one that is READY", y, 0, 0, 1);
        dueService("only the one that is READY", y, 1, 0, 1);
    }

    private static void firstOfTheQueueLeaves() {
        Check.sentence("the first of these leaves the queue and is SERVED");
        SplitFabric x = new SplitFabric();
        int[] masters = {2, 0, 3, 1};
        for (int master : masters) {
            x.issue(master, WRITE, 7, 1, master);
            x.cycle();
        }
        x.ready(0, true);
        for (int i = 0; i < 4; i++) {
            x.cycle();
            dueServed("one a cycle", x, i + 1);
            dueService("in the order of the grants", x, i, 0, masters[i]);
            dueState("the one served", x, masters[i], masters[i], DONE);
        }
    }

    private static void writeIsDoneWithItsService() {
        Check.sentence("WRITE and UNLOCK: its data become the target's words; it is DONE.");
        for (int length = 1; length <= 4; length++) {
            SplitFabric x = readyFabric();
            for (int i = 0; i < 4; i++) {
                x.data(0, i, i + 1);
            }
            x.issue(0, WRITE, 28, length, 0);
            x.cycle();
            dueMemory("before its service", x, 28, 0);
            x.cycle();
            dueState("of " + length, x, 0, 0, DONE);
            dueMemory("before the first word", x, 27, 0);
            for (int i = 0; i < 4; i++) {
                dueMemory("of " + length, x, 28 + i, i < length ? i + 1 : 0);
            }
            dueMemory("of the next target", x, 32, 0);
        }
        unlockIsDoneWithItsService();
    }

    private static void unlockIsDoneWithItsService() {
        SplitFabric x = readyFabric();
        x.issue(1, LOCK, 47, 1, 0);
        x.cycles(2);
        x.data(1, 0, -5);
        x.issue(1, UNLOCK, 47, 1, 1);
        x.cycle();
        dueMemory("an unlock before its service", x, 47, 0);
        x.cycle();
        dueState("an unlock", x, 1, 1, DONE);
        dueMemory("an unlock", x, 47, -5);
    }

    private static void answerIsOfTheService() {
        Check.sentence("READ and LOCK: its ANSWER are the target's words.");
        SplitFabric x = readyFabric();
        for (int i = 0; i < 4; i++) {
            x.data(1, i, 50 + i);
        }
        x.issue(0, READ, 12, 4, 0);
        x.issue(1, WRITE, 12, 4, 0);
        x.issue(2, LOCK, 15, 1, 0);
        x.cycles(12);
        for (int i = 0; i < 4; i++) {
            dueWord("served before the write, though it came back behind it", x, 0, 0, i, 0);
        }
        dueWord("served behind the write", x, 2, 0, 0, 53);
        x.issue(3, READ, 12, 4, 0);
        x.issue(2, UNLOCK, 14, 1, 1);
        x.cycles(12);
        for (int i = 0; i < 4; i++) {
            dueWord("from the first address to the last", x, 3, 0, i, i == 2 ? 0 : 50 + i);
        }
    }

    // RETURN

    private static void oneWordACycle() {
        Check.sentence("of all tags that have an answer of which not all words were returned, one is chosen");
        SplitFabric x = new SplitFabric();
        for (int target = 0; target < 3; target++) {
            x.issue(target, READ, 16 * target, 1, 0);
        }
        x.cycles(3);
        readyBackwards(x);
        for (int done = 1; done <= 3; done++) {
            x.cycle();
            dueServed("all answers are there", x, 3);
            for (int master = 0; master < 3; master++) {
                dueState("one a cycle", x, master, 0, master < done ? DONE : GRANTED);
            }
        }
    }

    private static void returnBeginsWithZero() {
        Check.sentence("(with 0 before the first time)");
        for (int place = 1; place < 16; place++) {
            SplitFabric x = answersOf(NONE, 0, place);
            dueState("0 against " + place, x, 0, 0, DONE);
            dueState("0 against " + place, x, place / 4, place % 4, GRANTED);
        }
    }

    private static void returnGoesRoundAndRound() {
        Check.sentence("tags are gone through in the order of 4 * master + tag, round and round, beginning behind that which was chosen last");
        for (int last = 0; last < 16; last++) {
            for (int one = 0; one < 16; one++) {
                for (int other = 0; other < 16; other++) {
                    int wayToOne = (one - last + 15) % 16;
                    int wayToOther = (other - last + 15) % 16;
                    if (wayToOne < wayToOther) {
                        SplitFabric x = answersOf(last, one, other);
                        dueState(one + " before " + other + " behind " + last, x, one / 4, one % 4, DONE);
                        dueState(one + " before " + other + " behind " + last, x, other / 4, other % 4, GRANTED);
                    }
                }
            }
        }
    }

    /** Two tags have got an answer of one word in the last cycle; the one that was chosen last is told, if there is one. */
    private static SplitFabric answersOf(int last, int one, int other) {
        SplitFabric x = new SplitFabric();
        if (last != NONE) {
            x.ready(2, true);
            x.issue(last / 4, READ, 40, 1, last % 4);
            x.cycles(2);
            x.take(last / 4, last % 4);
        }
        x.issue(one / 4, READ, 0, 1, one % 4);
        x.issue(other / 4, READ, 16, 1, other % 4);
        x.cycles(2);
        x.ready(0, true);
        x.ready(1, true);
        x.cycle();
        return x;
    }

    private static void returnByOneTagAlone() {
        Check.sentence("round and round, beginning behind that which was chosen last");
        SplitFabric x = readyFabric();
        x.issue(3, READ, 0, 4, 3);
        x.cycles(4);
        dueState("three words of the only tag", x, 3, 3, GRANTED);
        x.cycle();
        dueState("the fourth, round to the same tag", x, 3, 3, DONE);
    }

    private static void returnByATagUsedAgain() {
        Check.sentence("of all tags that have an answer of which not all words were returned");
        SplitFabric x = readyFabric();
        x.issue(1, READ, 0, 3, 2);
        x.cycles(4);
        x.take(1, 2);
        x.ready(0, false);
        x.issue(1, READ, 0, 3, 2);
        x.cycles(20);
        dueState("it has no answer yet", x, 1, 2, GRANTED);
        x.ready(0, true);
        x.cycles(2);
        dueState("two words of three", x, 1, 2, GRANTED);
        x.cycle();
        dueState("three words of three", x, 1, 2, DONE);
    }

    private static void returnKeepsItsTurn() {
        Check.sentence("beginning behind that which was chosen last");
        SplitFabric x = new SplitFabric();
        x.ready(2, true);
        x.issue(1, READ, 40, 1, 1);
        x.cycles(2);
        x.issue(1, READ, 16, 1, 2);
        x.issue(0, READ, 0, 1, 0);
        x.cycles(100);
        x.ready(0, true);
        x.ready(1, true);
        x.cycle();
        dueState("cycles without an answer change no turn", x, 1, 2, DONE);
        dueState("cycles without an answer change no turn", x, 0, 0, GRANTED);
    }

    private static void doneWithTheLastWord() {
        Check.sentence("Its next word is returned; with the last one it is DONE.");
        for (int length = 1; length <= 4; length++) {
            SplitFabric x = new SplitFabric();
            x.issue(2, READ, 32, length, 1);
            x.cycle();
            x.ready(2, true);
            for (int returned = 1; returned <= length; returned++) {
                dueState("before word " + returned + " of " + length, x, 2, 1, GRANTED);
                x.cycle();
            }
            dueState("all words of " + length, x, 2, 1, DONE);
        }
        SplitFabric x = readyFabric();
        x.issue(2, LOCK, 32, 1, 1);
        x.cycle();
        dueState("a lock before its word", x, 2, 1, GRANTED);
        x.cycle();
        dueState("a lock has one", x, 2, 1, DONE);
    }

    /** Twelve reads of four words: the words need 48 cycles, and the last round ends them tag by tag. */
    private static void everyWordOfAFullFabric() {
        Check.sentence("Its next word is returned; with the last one it is DONE.");
        SplitFabric x = fullQueues(READ);
        readyBackwards(x);
        x.cycles(4);
        dueServed("all are served", x, 12);
        int open = 12;
        int cycles = 4;
        while (open > 0 && cycles < 100) {
            x.cycle();
            cycles++;
            open = 12 - x.credits(0) - x.credits(1) - x.credits(2);
        }
        int took = cycles;
        Check.due("one word a cycle", 48, () -> took);
        for (int n = 0; n < 12; n++) {
            dueState("all are back", x, n / 4, n % 4, DONE);
        }
    }

    // GRANT

    private static void greatestClassFirst() {
        Check.sentence("of all eligible requests those of the greatest class");
        SplitFabric x = new SplitFabric();
        for (int master = 0; master < 4; master++) {
            x.issue(master, READ, 48 + master, 1, 0);
        }
        x.base(1, 1);
        x.base(2, 2);
        x.base(3, 1);
        dueCycles("by class, then in turn", x, 2, 3, 1, 0, NONE);
        SplitFabric y = fullFabric(0);
        y.base(2, 2);
        y.issue(2, READ, 0, 1, 0);
        y.issue(1, READ, 16, 1, 0);
        dueCycles("one that is not eligible does not count", y, 1, NONE);
    }

    private static void grantBeginsWithZero() {
        Check.sentence("(from 0 before the first time)");
        for (int set = 1; set < 16; set++) {
            int first = Integer.numberOfTrailingZeros(set);
            Check.due("masters of " + Integer.toBinaryString(set), first, grantOf(NONE, set));
        }
    }

    private static void grantGoesRoundAndRound() {
        Check.sentence("of these those of the first master, going round and round from the one behind the master that was granted last");
        for (int last = 0; last < 4; last++) {
            for (int set = 1; set < 16; set++) {
                int first = (last + 1) % 4;
                while ((set >> first & 1) == 0) {
                    first = (first + 1) % 4;
                }
                Check.due("masters of " + Integer.toBinaryString(set) + " behind " + last, first, grantOf(last, set));
            }
        }
        SplitFabric x = new SplitFabric();
        for (int tag = 0; tag < 4; tag++) {
            x.issue(3, READ, tag, 1, tag);
        }
        dueCycles("round to the only master", x, 3, 3, 3, 3, NONE);
    }

    /** Who is granted of a set of masters, behind the one that was granted last. */
    private static Check.Call grantOf(int last, int set) {
        SplitFabric x = new SplitFabric();
        if (last != NONE) {
            x.issue(last, READ, 16, 1, 3);
            x.cycle();
        }
        for (int master = 3; master >= 0; master--) {
            if ((set >> master & 1) == 1) {
                x.issue(master, READ, 0, 1, 0);
            }
        }
        return x::cycle;
    }

    private static void grantKeepsItsTurn() {
        Check.sentence("from the one behind the master that was granted last");
        SplitFabric x = new SplitFabric();
        x.issue(1, READ, 0, 1, 0);
        x.cycle();
        x.cycles(100);
        x.issue(0, READ, 0, 1, 0);
        x.issue(1, READ, 1, 1, 1);
        x.issue(2, READ, 0, 1, 0);
        dueCycles("cycles without a grant change no turn", x, 2, 0, 1);
    }

    private static void barrierAndUnmappedTakeTheTurn() {
        Check.sentence("from the one behind the master that was granted last");
        int[][] grants = {{BARRIER, 0}, {READ, 48}, {WRITE, 63}, {LOCK, 50}};
        for (int[] grant : grants) {
            SplitFabric x = new SplitFabric();
            x.issue(1, grant[0], grant[1], 1, 0);
            dueCycles("kind " + grant[0], x, 1);
            x.issue(1, READ, 0, 1, 1);
            x.issue(2, READ, 0, 1, 1);
            dueCycles("behind kind " + grant[0], x, 2, 1);
        }
    }

    private static void issuedFirstIsGranted() {
        Check.sentence("of these the one issued first is GRANTED");
        for (int code = 0; code < 256; code++) {
            int[] order = {code & 3, code >> 2 & 3, code >> 4 & 3, code >> 6 & 3};
            if ((1 << order[0] | 1 << order[1] | 1 << order[2] | 1 << order[3]) == 15) {
                issuedInOrder(order);
            }
        }
        SplitFabric x = readyFabric();
        x.issue(1, READ, 0, 1, 0);
        x.cycles(2);
        x.issue(1, READ, 1, 1, 1);
        x.take(1, 0);
        x.issue(1, READ, 2, 1, 0);
        x.cycles(3);
        dueService("a tag used again is as young as its request", x, 1, 1, 1);
        dueService("a tag used again is as young as its request", x, 2, 1, 0);
    }

    private static void issuedInOrder(int[] tags) {
        SplitFabric x = new SplitFabric();
        for (int tag : tags) {
            x.issue(2, READ, tag, 1, tag);
        }
        for (int granted = 0; granted < 4; granted++) {
            dueCycles("four of one master", x, 2);
            for (int i = 0; i < 4; i++) {
                dueState("grant " + granted, x, 2, tags[i], i <= granted ? GRANTED : WAITING);
            }
        }
    }

    private static void barrierIsDoneAtOnce() {
        Check.sentence("A BARRIER is DONE at once");
        SplitFabric x = new SplitFabric();
        x.issue(3, BARRIER, 0, 0, 3);
        dueCycles("granted", x, 3, NONE);
        dueState("granted", x, 3, 3, DONE);
        for (int target = 0; target < 3; target++) {
            dueCredits("no credit", x, target, 4);
            dueHolder("no holder", x, target, NONE);
        }
        readyBackwards(x);
        x.cycles(4);
        dueServed("in no queue", x, 0);
    }

    private static void unmappedFails() {
        Check.sentence("and what is unmapped has FAILED");
        for (int kind = READ; kind <= LOCK; kind++) {
            SplitFabric x = new SplitFabric();
            x.issue(3, kind, 63, 1, 3);
            dueState("not before the grant", x, 3, 3, WAITING);
            dueCycles("granted", x, 3, NONE);
            dueState("granted", x, 3, 3, FAILED);
            for (int target = 0; target < 3; target++) {
                dueCredits("no credit", x, target, 4);
                dueHolder("no holder", x, target, NONE);
            }
            readyBackwards(x);
            x.cycles(4);
            dueServed("in no queue", x, 0);
            dueState("for good", x, 3, 3, FAILED);
        }
    }

    private static void endOfTheQueue() {
        Check.sentence("Others go to the end of their target's queue and take a credit");
        SplitFabric x = new SplitFabric();
        x.base(0, 2);
        x.issue(3, READ, 16, 1, 0);
        x.issue(3, READ, 17, 1, 1);
        x.issue(3, READ, 18, 1, 2);
        x.cycles(3);
        x.issue(0, READ, 19, 1, 0);
        dueCycles("a greater class", x, 0);
        dueCredits("the last credit", x, 1, 0);
        x.ready(1, true);
        x.cycles(4);
        for (int i = 0; i < 4; i++) {
            dueService("behind all of lesser class", x, i, 3, 16 + i);
        }
        queueThatNeverEmpties();
    }

    /** More pass the queue than it has places for, while it is never empty. */
    private static void queueThatNeverEmpties() {
        SplitFabric x = fullFabric(1);
        x.ready(1, true);
        for (int i = 0; i < 20; i++) {
            x.issue(i % 3, WRITE, 16 + i % 12, 1, i % 4);
            dueCycles("into the place that is left", x, i % 3);
            if (i >= 4) {
                x.take((i - 4) % 3, i % 4);
                dueService("in order", x, i, 3, 16 + (i - 4) % 12);
            }
        }
    }

    private static void creditComesBackWhenDone() {
        Check.sentence("take a credit, which comes back when they are DONE");
        for (int length = 1; length <= 4; length++) {
            SplitFabric x = new SplitFabric();
            x.issue(0, READ, 16, length, 0);
            dueCredits("WAITING", x, 1, 4);
            x.cycle();
            x.ready(1, true);
            for (int returned = 0; returned < length; returned++) {
                dueCredits(returned + " words of " + length, x, 1, 3);
                x.cycle();
            }
            dueCredits("all words of " + length, x, 1, 4);
            x.take(0, 0);
            dueCredits("taken", x, 1, 4);
        }
        SplitFabric x = new SplitFabric();
        x.issue(0, WRITE, 16, 4, 0);
        x.cycle();
        dueCredits("a write that is GRANTED", x, 1, 3);
        x.ready(1, true);
        x.cycle();
        dueCredits("a write that is DONE", x, 1, 4);
    }

    private static void creditIsUsedInTheSameCycle() {
        Check.sentence("A CYCLE does these four, one after the other");
        for (int kind = READ; kind <= WRITE; kind++) {
            SplitFabric x = new SplitFabric();
            for (int tag = 0; tag < 4; tag++) {
                x.issue(2, kind, tag, 1, tag);
            }
            x.cycles(4);
            x.issue(1, READ, 9, 1, 0);
            dueCycles("no credit yet", x, NONE);
            x.ready(0, true);
            dueCycles("service or return, then grant, kind " + kind, x, 1);
            dueCredits("back and taken", x, 0, 0);
        }
        SplitFabric x = readyFabric();
        x.issue(1, READ, 9, 1, 0);
        x.cycle();
        dueState("grant comes behind service", x, 1, 0, GRANTED);
        dueServed("grant comes behind service", x, 0);
        x.cycle();
        dueState("service, then return", x, 1, 0, DONE);
    }

    private static void heldFromTheGrantOn() {
        Check.sentence("by a LOCK the target is HELD by its master from now on");
        SplitFabric x = new SplitFabric();
        x.issue(2, LOCK, 31, 1, 0);
        x.issue(3, READ, 16, 1, 0);
        dueHolder("WAITING", x, 1, NONE);
        dueCycles("the lock", x, 2);
        dueHolder("GRANTED, not yet served", x, 1, 2);
        dueHolder("the target before", x, 0, NONE);
        dueHolder("the target behind", x, 2, NONE);
        dueCycles("others wait from now on", x, NONE, NONE);
        x.ready(1, true);
        x.cycle();
        dueState("the lock", x, 2, 0, DONE);
        x.take(2, 0);
        dueHolder("DONE and taken", x, 1, 2);
        dueCycles("others wait on", x, NONE);
    }

    private static void heldNoMoreFromTheGrantOn() {
        Check.sentence("by an UNLOCK it is HELD no more");
        SplitFabric x = new SplitFabric();
        x.issue(2, LOCK, 31, 1, 0);
        x.issue(1, LOCK, 0, 1, 0);
        x.cycles(2);
        x.issue(3, LOCK, 17, 1, 0);
        x.issue(2, UNLOCK, 16, 1, 1);
        dueHolder("WAITING", x, 1, 2);
        dueCycles("the unlock", x, 2);
        dueState("the unlock", x, 2, 1, GRANTED);
        dueHolder("GRANTED, not yet served", x, 1, NONE);
        dueHolder("another target is held on", x, 0, 1);
        dueCycles("the next lock", x, 3);
        x.ready(1, true);
        x.cycles(4);
        dueState("the unlock", x, 2, 1, DONE);
        dueHolder("its service takes nothing from the next one", x, 1, 3);
    }

    private static void waitingOnesAge() {
        Check.sentence("Those that are WAITING still have waited one cycle more.");
        SplitFabric x = new SplitFabric();
        x.issue(0, READ, 0, 1, 0);
        x.issue(1, READ, 0, 1, 0);
        x.issue(1, READ, 1, 1, 1);
        dueWaits("just issued", x, 0, 0);
        x.cycle();
        dueWaits("granted", x, 0, NONE);
        dueWaits("still WAITING", x, 1, 1);
        x.cycle();
        dueWaits("the next one has waited as long", x, 1, 2);
        x.cycle();
        dueWaits("granted", x, 1, NONE);
        x.issue(0, READ, 3, 1, 1);
        dueWaits("issued behind these cycles", x, 0, 0);
        everyTagAges();
    }

    private static void everyTagAges() {
        for (int place = 0; place < 16; place++) {
            int master = place / 4;
            SplitFabric x = new SplitFabric();
            x.issue((master + 1) % 4, LOCK, 0, 1, 0);
            x.cycle();
            x.issue(master, READ, 1, 1, place % 4);
            x.cycles(7);
            dueWaits("tag " + place % 4, x, master, 7);
        }
    }
}
