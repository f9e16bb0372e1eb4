/** The edges that the document names under "Terms": what there is, and when a request is eligible, and of which class. */
public final class TermEdgesTest extends Kit {
    private static final int[] EXTREMES = {Integer.MIN_VALUE, -1, 0, 1, Integer.MAX_VALUE};

    public static void main(String[] args) {
        wordsAreInts();
        targetsHaveSixteenWords();
        wordsAreZeroAtFirst();
        sixteenAddressesAreUnmapped();
        fourMastersWithFourTags();
        fourDataWords();
        dataAreZeroAtFirst();
        baseIsZeroAtFirst();
        tagsAreFreeAtFirst();
        issuedIsWaiting();
        oneToFourWordsOfOneTarget();
        lockAndUnlockHaveOneWord();
        barrierHasNoWords();
        dataAreKept();
        openIsWaitingOrGranted();
        aTargetMayBeHeld();
        fourCredits();
        openBarrierHoldsBack();
        onlyAnOpenBarrierOfBefore();
        barrierWaitsForOpenOnes();
        barrierWaitsForNoOther();
        wordInCommon();
        onlyAWaitingOneOfBefore();
        targetNeedsACredit();
        unmappedNeedsNoTarget();
        heldByNobody();
        ownUnlock();
        classGrowsEachSixteenCycles();
        classIsTwoAtMost();
        lastOf512Calls();
        Check.end();
    }

    private static void wordsAreInts() {
        Check.sentence("WORDS are ints");
        for (int word : EXTREMES) {
            SplitFabric x = readyFabric();
            write(x, 5, word);
            dueMemory("written", x, 5, word);
            x.issue(0, READ, 5, 1, 0);
            x.cycles(2);
            dueWord("read", x, 0, 0, 0, word);
        }
    }

    private static void targetsHaveSixteenWords() {
        Check.sentence("target t, 0 .. 2, has those from 16 * t to 16 * t + 15");
        for (int target = 0; target < 3; target++) {
            for (int address = 16 * target; address <= 16 * target + 15; address++) {
                SplitFabric x = new SplitFabric();
                x.issue(0, READ, address, 1, 0);
                x.cycle();
                for (int t = 0; t < 3; t++) {
                    dueCredits("granted at " + address, x, t, t == target ? 3 : 4);
                }
            }
        }
    }

    private static void wordsAreZeroAtFirst() {
        Check.sentence("all 0 at first");
        SplitFabric x = readyFabric();
        for (int address = 0; address < 48; address++) {
            dueMemory("new", x, address, 0);
        }
        for (int target = 0; target < 3; target++) {
            x.issue(target, READ, 16 * target + 12, 4, 0);
        }
        x.cycles(20);
        for (int target = 0; target < 3; target++) {
            for (int i = 0; i < 4; i++) {
                dueWord("new", x, target, 0, i, 0);
            }
        }
    }

    private static void sixteenAddressesAreUnmapped() {
        Check.sentence("48 .. 63 are UNMAPPED");
        for (int address = 44; address < 64; address++) {
            for (int kind = READ; kind <= LOCK; kind++) {
                SplitFabric x = new SplitFabric();
                x.issue(0, kind, address, 1, 0);
                x.cycle();
                dueState("kind " + kind + " at " + address, x, 0, 0, address < 48 ? GRANTED : FAILED);
            }
        }
    }

    private static void fourMastersWithFourTags() {
        Check.sentence("MASTERS are 0 .. 3; each has four DATA words, 0 at first, four TAGS 0 .. 3");
        SplitFabric x = new SplitFabric();
        for (int master = 0; master < 4; master++) {
            for (int tag = 0; tag < 4; tag++) {
                int m = master;
                int t = tag;
                dueState("not yet issued", x, m, t, FREE);
                Check.fine("issue by (" + m + ", " + t + ")", () -> x.issue(m, READ, 0, 1, t));
                dueState("issued", x, m, t, WAITING);
            }
        }
        for (int bad : NO_MASTER) {
            Check.badIndex("no fifth master " + bad, () -> x.issue(bad, READ, 0, 1, 0));
            Check.badIndex("no fifth tag " + bad, () -> x.issue(0, READ, 0, 1, bad));
        }
    }

    private static void fourDataWords() {
        Check.sentence("each has four DATA words");
        SplitFabric x = readyFabric();
        for (int master = 0; master < 4; master++) {
            for (int i = 0; i < 4; i++) {
                x.data(master, i, 10 * master + i + 1);
            }
        }
        for (int master = 0; master < 4; master++) {
            x.issue(master, WRITE, 4 * master, 4, 0);
        }
        x.cycles(8);
        for (int master = 0; master < 4; master++) {
            for (int i = 0; i < 4; i++) {
                dueMemory("data word " + i + " of master " + master, x, 4 * master + i, 10 * master + i + 1);
            }
        }
    }

    private static void dataAreZeroAtFirst() {
        Check.sentence("each has four DATA words, 0 at first");
        for (int master = 0; master < 4; master++) {
            SplitFabric x = readyFabric();
            int filler = (master + 1) % 4;
            for (int i = 0; i < 4; i++) {
                x.data(filler, i, 5);
            }
            x.issue(filler, WRITE, 20, 4, 0);
            x.cycles(2);
            dueMemory("filled", x, 23, 5);
            x.issue(master, WRITE, 20, 4, 0);
            x.cycles(2);
            for (int i = 0; i < 4; i++) {
                dueMemory("written by master " + master, x, 20 + i, 0);
            }
        }
    }

    private static void baseIsZeroAtFirst() {
        Check.sentence("a BASE class 0 .. 2, 0 at first");
        for (int master = 0; master < 4; master++) {
            int rival = (master + 1) % 4;
            Check.due("against base 0", master, turnAgainst(master, rival, 0));
            Check.due("against base 1", rival, turnAgainst(master, rival, 1));
        }
        Check.due("base 2 is above 1", 2, () -> {
            SplitFabric x = new SplitFabric();
            x.base(1, 1);
            x.base(2, 2);
            x.issue(1, READ, 0, 1, 0);
            x.issue(2, READ, 0, 1, 0);
            return x.cycle();
        });
    }

    /** It is the master's turn, the rival's is next: only a greater class lets the rival go before. */
    private static Check.Call turnAgainst(int master, int rival, int baseOfRival) {
        SplitFabric x = new SplitFabric();
        x.issue((master + 3) % 4, BARRIER, 0, 0, 3);
        x.cycle();
        x.base(rival, baseOfRival);
        x.issue(rival, READ, 0, 1, 0);
        x.issue(master, READ, 0, 1, 0);
        return x::cycle;
    }

    private static void tagsAreFreeAtFirst() {
        Check.sentence("A tag is FREE (at first)");
        SplitFabric x = new SplitFabric();
        for (int master = 0; master < 4; master++) {
            for (int tag = 0; tag < 4; tag++) {
                dueState("new", x, master, tag, FREE);
            }
        }
    }

    private static void issuedIsWaiting() {
        Check.sentence("A REQUEST is issued with a FREE tag, which then is WAITING.");
        for (int kind = READ; kind <= BARRIER; kind++) {
            SplitFabric x = readyFabric();
            if (kind == UNLOCK) {
                x.issue(1, LOCK, 8, 1, 0);
                x.cycle();
            }
            x.issue(1, kind, 9, 1, 2);
            dueState("kind " + kind, x, 1, 2, WAITING);
            dueState("the tag beside", x, 1, 3, FREE);
            dueState("the same tag of another master", x, 2, 2, FREE);
        }
    }

    private static void oneToFourWordsOfOneTarget() {
        Check.sentence("READ and WRITE, of 1 to 4 words from an address on, all of the same target, or all unmapped");
        for (int address = 0; address < 64; address++) {
            for (int length = 1; length <= 4; length++) {
                boolean fits = address % 16 <= 16 - length;
                oneRequest(READ, address, length, fits);
                oneRequest(WRITE, address, length, fits);
            }
        }
    }

    private static void oneRequest(int kind, int address, int length, boolean fits) {
        SplitFabric x = new SplitFabric();
        String what = "kind " + kind + " at " + address + " of " + length;
        Check.Act issue = () -> x.issue(0, kind, address, length, 0);
        if (fits) {
            Check.fine(what, issue);
        } else {
            Check.badArgument(what, issue);
        }
        dueState(what, x, 0, 0, fits ? WAITING : FREE);
    }

    private static void lockAndUnlockHaveOneWord() {
        Check.sentence("LOCK and UNLOCK, a READ and a WRITE of one word");
        SplitFabric x = readyFabric();
        for (int i = 0; i < 4; i++) {
            x.data(0, i, 70 + i);
        }
        write(x, 21, 6);
        x.issue(0, LOCK, 21, 1, 0);
        x.cycles(2);
        dueWord("a lock reads it", x, 0, 0, 0, 6);
        dueMemory("a lock does not write", x, 21, 6);
        Check.badState("a lock reads no second one", () -> x.word(0, 0, 1));
        x.issue(0, UNLOCK, 21, 1, 1);
        x.cycles(2);
        dueMemory("an unlock writes it", x, 21, 70);
        dueMemory("not the one before", x, 20, 0);
        dueMemory("not the one behind", x, 22, 0);
        dueService("a lock", x, 1, 4, 1);
        dueService("an unlock", x, 2, 4, 1);
    }

    private static void barrierHasNoWords() {
        Check.sentence("BARRIER, without words");
        for (int odd : new int[] {Integer.MIN_VALUE, -1, 0, 5, 15, 47, 48, 63, 64, Integer.MAX_VALUE}) {
            SplitFabric x = readyFabric();
            x.data(0, 0, 9);
            Check.fine("at " + odd, () -> x.issue(0, BARRIER, odd, 4, 0));
            Check.fine("of " + odd, () -> x.issue(1, BARRIER, 3, odd, 0));
            dueCycles("at and of " + odd, x, 0, 1, NONE);
            dueState("done, never failed", x, 0, 0, DONE);
            dueState("done, never failed", x, 1, 0, DONE);
            dueServed("goes to no target", x, 0);
            dueMemory("writes nothing", x, 5, 0);
            Check.badState("reads nothing", () -> x.word(0, 0, 0));
        }
    }

    private static void dataAreKept() {
        Check.sentence("With it are kept its master's DATA as they are then.");
        SplitFabric x = new SplitFabric();
        x.data(0, 0, 1);
        x.data(0, 3, 4);
        x.issue(0, WRITE, 8, 4, 0);
        x.data(0, 0, 91);
        x.cycle();
        x.data(0, 3, 94);
        x.ready(0, true);
        x.cycle();
        dueMemory("changed while it was WAITING", x, 8, 1);
        dueMemory("changed while it was GRANTED", x, 11, 4);
        x.issue(0, WRITE, 8, 4, 1);
        x.cycles(2);
        dueMemory("those of the next request", x, 8, 91);
        dueMemory("those of the next request", x, 11, 94);
    }

    /** A barrier tells whether a request of before is open. */
    private static void openIsWaitingOrGranted() {
        Check.sentence("It is OPEN as long as its tag is WAITING or GRANTED.");
        SplitFabric x = fullFabric(0);
        x.issue(0, READ, 0, 1, 0);
        x.issue(0, BARRIER, 0, 0, 1);
        dueCycles("WAITING is open", x, NONE);
        x.ready(0, true);
        dueCycles("granted now", x, 0);
        x.ready(0, false);
        dueCycles("GRANTED is open", x, NONE, NONE);
        x.ready(0, true);
        x.cycles(3);
        dueState("its queue is served to the one before it", x, 0, 0, GRANTED);
        dueState("still open", x, 0, 1, WAITING);
        dueCycles("DONE is not, though nobody took it", x, 0);
        dueState("done", x, 0, 0, DONE);
        SplitFabric y = new SplitFabric();
        y.issue(0, READ, 48, 1, 0);
        y.issue(0, BARRIER, 0, 0, 1);
        dueCycles("FAILED is not open, though nobody took it", y, 0, 0);
        dueState("failed", y, 0, 0, FAILED);
    }

    private static void aTargetMayBeHeld() {
        Check.sentence("A target may be HELD by a master.");
        SplitFabric x = new SplitFabric();
        for (int target = 0; target < 3; target++) {
            dueHolder("none at first", x, target, NONE);
            x.issue(target + 1, LOCK, 16 * target + 15, 1, 0);
            x.cycle();
        }
        for (int target = 0; target < 3; target++) {
            dueHolder("each by another one", x, target, target + 1);
        }
    }

    private static void fourCredits() {
        Check.sentence("Each target has four CREDITS.");
        for (int target = 0; target < 3; target++) {
            SplitFabric x = new SplitFabric();
            for (int tag = 0; tag < 4; tag++) {
                x.issue(1, WRITE, 16 * target + tag, 1, tag);
            }
            x.issue(2, WRITE, 16 * target + 9, 1, 0);
            x.base(1, 1);
            for (int left = 4; left > 0; left--) {
                dueCredits("so many are left", x, target, left);
                dueCycles("with " + left + " left", x, 1);
            }
            dueCredits("all are away", x, target, 0);
            dueCycles("a fifth waits", x, NONE, NONE);
            dueState("a fifth", x, 2, 0, WAITING);
            dueCredits("never less than none", x, target, 0);
            for (int other = 0; other < 3; other++) {
                dueCredits("each has its own", x, other, other == target ? 0 : 4);
            }
        }
    }

    private static void openBarrierHoldsBack() {
        Check.sentence("if no open BARRIER of its master was issued before it");
        int[][] behind = {{READ, 16}, {WRITE, 32}, {LOCK, 20}, {READ, 63}, {BARRIER, 0}};
        for (int[] request : behind) {
            SplitFabric x = new SplitFabric();
            x.issue(2, READ, 0, 1, 3);
            x.issue(2, BARRIER, 0, 0, 2);
            x.issue(2, request[0], request[1], 1, 0);
            dueCycles("kind " + request[0] + " waits behind it", x, 2, NONE, NONE);
            x.ready(0, true);
            dueCycles("the barrier, then kind " + request[0], x, 2);
            dueState("not in the same cycle", x, 2, 0, WAITING);
            dueCycles("then kind " + request[0], x, 2, NONE);
        }
        unlockBehindBarrier();
    }

    private static void unlockBehindBarrier() {
        SplitFabric x = new SplitFabric();
        x.issue(2, LOCK, 0, 1, 3);
        x.cycle();
        x.issue(2, BARRIER, 0, 0, 2);
        x.issue(2, UNLOCK, 9, 1, 1);
        dueCycles("an unlock waits behind it", x, NONE);
        x.ready(0, true);
        dueCycles("the barrier, then the unlock", x, 2, 2);
        dueHolder("unlocked", x, 0, NONE);
    }

    private static void onlyAnOpenBarrierOfBefore() {
        Check.sentence("if no open BARRIER of its master was issued before it");
        SplitFabric x = new SplitFabric();
        x.issue(1, READ, 0, 1, 0);
        x.cycle();
        x.issue(1, READ, 16, 1, 1);
        x.issue(1, BARRIER, 0, 0, 2);
        x.issue(2, READ, 17, 1, 0);
        dueCycles("of another master, or issued later", x, 2, 1, NONE);
        x.ready(0, true);
        x.ready(1, true);
        x.cycles(4);
        dueState("the barrier", x, 1, 2, DONE);
        x.issue(1, READ, 40, 1, 3);
        dueCycles("a barrier that is DONE, though nobody took it", x, 1);
        SplitFabric y = new SplitFabric();
        y.issue(1, READ, 0, 1, 0);
        y.cycle();
        y.issue(1, BARRIER, 0, 0, 1);
        y.reset(1);
        y.issue(1, READ, 40, 1, 3);
        dueCycles("a barrier that was given up", y, 1);
    }

    private static void barrierWaitsForOpenOnes() {
        Check.sentence("for a BARRIER: no request of its master issued before it is open");
        SplitFabric x = readyFabric();
        x.issue(3, READ, 4, 4, 3);
        x.issue(3, BARRIER, 0, 0, 0);
        x.base(3, 2);
        dueCycles("before the last word is back it is open", x, 3, NONE, NONE, NONE);
        dueState("three words are back", x, 3, 3, GRANTED);
        dueCycles("with the last word it is not", x, 3);
        SplitFabric y = new SplitFabric();
        y.issue(3, WRITE, 4, 4, 0);
        y.cycle();
        y.issue(3, WRITE, 20, 4, 1);
        y.issue(3, BARRIER, 0, 0, 2);
        dueCycles("the one that waits goes first", y, 3);
        y.ready(1, true);
        dueCycles("all of them count, not the last alone", y, NONE);
        y.ready(0, true);
        dueCycles("none is open", y, 3);
    }

    private static void barrierWaitsForNoOther() {
        Check.sentence("for a BARRIER: no request of its master issued before it is open");
        SplitFabric x = fullFabric(0);
        x.issue(2, READ, 0, 1, 0);
        x.issue(1, BARRIER, 0, 0, 3);
        x.issue(1, READ, 0, 1, 0);
        dueCycles("those of others, and those behind it", x, 1, NONE);
        dueState("the barrier", x, 1, 3, DONE);
        dueState("behind it", x, 1, 0, WAITING);
    }

    /** Only an unlock can go by an older request of its target: that one waits because the target is held. */
    private static void wordInCommon() {
        Check.sentence("no WAITING request of its master issued before it has a word in common with it");
        for (int length = 1; length <= 4; length++) {
            for (int address = 18; address <= 26; address++) {
                for (int kind = READ; kind <= WRITE; kind++) {
                    boolean common = address >= 20 && address <= 20 + length - 1;
                    SplitFabric x = readyFabric();
                    x.issue(2, LOCK, 16, 1, 0);
                    x.cycles(2);
                    x.issue(2, kind, 20, length, 1);
                    x.issue(2, UNLOCK, address, 1, 2);
                    dueCycles("20 of " + length + ", unlock at " + address, x, common ? NONE : 2);
                    dueHolder("20 of " + length + ", unlock at " + address, x, 1, common ? 2 : NONE);
                }
            }
        }
    }

    private static void onlyAWaitingOneOfBefore() {
        Check.sentence("no WAITING request of its master issued before it has a word in common with it");
        SplitFabric x = new SplitFabric();
        x.issue(2, LOCK, 20, 1, 0);
        x.cycle();
        x.issue(1, READ, 20, 4, 0);
        x.issue(2, UNLOCK, 20, 1, 3);
        x.issue(2, READ, 20, 4, 1);
        dueCycles("GRANTED, of another master, or issued later", x, 2, 1, 2, NONE);
        SplitFabric y = new SplitFabric();
        y.issue(0, READ, 60, 4, 3);
        y.issue(0, WRITE, 63, 1, 0);
        dueCycles("unmapped, in their order", y, 0);
        dueState("the first", y, 0, 3, FAILED);
        dueState("the second", y, 0, 0, WAITING);
        dueCycles("unmapped, the second", y, 0, NONE);
    }

    private static void targetNeedsACredit() {
        Check.sentence("if it is not unmapped, its target has a credit");
        for (int target = 0; target < 3; target++) {
            for (int kind = READ; kind <= LOCK; kind++) {
                SplitFabric x = fullFabric(target);
                x.issue(0, kind, 16 * target, 1, 0);
                dueCycles("none for kind " + kind, x, NONE, NONE);
                x.ready(target, true);
                dueCycles("one for kind " + kind, x, 0);
            }
        }
        unlockNeedsACredit();
    }

    private static void unlockNeedsACredit() {
        SplitFabric x = new SplitFabric();
        for (int tag = 0; tag < 3; tag++) {
            x.issue(3, READ, 44 + tag, 1, tag);
            x.cycle();
        }
        x.issue(0, LOCK, 41, 1, 1);
        x.cycle();
        dueCredits("the lock took the last one", x, 2, 0);
        x.issue(0, UNLOCK, 42, 1, 2);
        dueCycles("none for an unlock", x, NONE, NONE);
        x.ready(2, true);
        dueCycles("one for an unlock", x, 0);
    }

    private static void unmappedNeedsNoTarget() {
        Check.sentence("if it is not unmapped, its target has a credit, and is HELD by nobody");
        SplitFabric x = new SplitFabric();
        for (int target = 0; target < 3; target++) {
            x.issue(target, LOCK, 16 * target, 1, 0);
        }
        x.cycles(3);
        x.issue(3, READ, 48, 4, 0);
        x.issue(3, WRITE, 60, 4, 1);
        x.issue(3, LOCK, 55, 1, 2);
        x.issue(3, BARRIER, 0, 0, 3);
        dueCycles("with every target held", x, 3, 3, 3, 3, NONE);
        SplitFabric y = fullFabric(2);
        y.issue(0, READ, 48, 1, 0);
        y.issue(1, BARRIER, 0, 0, 0);
        dueCycles("with no credit left", y, 0, 1, NONE);
    }

    private static void heldByNobody() {
        Check.sentence("and is HELD by nobody, or, for an UNLOCK, by its master");
        for (int kind = READ; kind <= LOCK; kind++) {
            SplitFabric x = readyFabric();
            x.issue(1, LOCK, 16, 1, 0);
            x.cycles(2);
            x.issue(2, kind, 31, 1, 0);
            x.issue(2, kind == LOCK ? READ : kind, 32, 1, 1);
            dueCycles("kind " + kind + " of another: that target waits, the next one's goes", x, 2, NONE);
            dueState("kind " + kind, x, 2, 0, WAITING);
            x.reset(1);
            dueCycles("kind " + kind + ": held by nobody", x, 2);
        }
        for (int kind = READ; kind <= WRITE; kind++) {
            SplitFabric x = readyFabric();
            x.issue(1, LOCK, 16, 1, 0);
            x.cycles(2);
            x.issue(1, kind, 31, 1, 1);
            dueCycles("kind " + kind + " of the holder waits, too", x, NONE, NONE);
        }
    }

    private static void ownUnlock() {
        Check.sentence("and is HELD by nobody, or, for an UNLOCK, by its master");
        for (int master = 0; master < 4; master++) {
            for (int target = 0; target < 3; target++) {
                SplitFabric x = readyFabric();
                x.issue(master, LOCK, 16 * target, 1, 0);
                x.cycles(2);
                x.issue(master, UNLOCK, 16 * target + 15, 1, 3);
                dueCycles("the holder's unlock", x, master, NONE);
            }
        }
    }

    private static void classGrowsEachSixteenCycles() {
        Check.sentence("Its CLASS is its master's base class and one more for each 16 cycles (whole) that it has waited");
        int[][] rows = {{0, 0}, {1, 0}, {15, 0}, {16, 1}, {17, 1}, {31, 1}, {32, 2}};
        for (int[] row : rows) {
            for (int rival = 0; rival <= 2; rival++) {
                Check.due("base 0, waited " + row[0] + ", against " + rival, row[1] > rival ? 1 : 0, agedAgainst(row[0], 0, rival));
            }
        }
        Check.due("base 1, waited 15, against 1", 0, agedAgainst(15, 1, 1));
        Check.due("base 1, waited 16, against 1", 1, agedAgainst(16, 1, 1));
    }

    private static void classIsTwoAtMost() {
        Check.sentence("but 2 at most");
        int[][] rows = {{48, 0}, {64, 0}, {32, 1}, {48, 1}, {16, 2}, {32, 2}, {300, 2}};
        for (int[] row : rows) {
            Check.due("base " + row[1] + ", waited " + row[0] + ", against 2", 0, agedAgainst(row[0], row[1], 2));
            Check.due("base " + row[1] + ", waited " + row[0] + ", against 1", 1, agedAgainst(row[0], row[1], 1));
        }
    }

    /** Who is granted: master 1 after it waited so long, or master 0, whose turn it is and which has not waited at all. */
    private static Check.Call agedAgainst(int waited, int agedBase, int rivalBase) {
        SplitFabric x = fullFabric(0);
        x.base(1, agedBase);
        x.base(0, rivalBase);
        x.issue(1, READ, 0, 1, 0);
        for (int i = 0; i < waited; i++) {
            x.cycle();
        }
        x.ready(0, true);
        x.issue(0, READ, 5, 1, 0);
        return x::cycle;
    }

    private static void lastOf512Calls() {
        Check.sentence("An object is used for at most 512 calls after it has been made");
        SplitFabric x = fullFabric(0);
        x.issue(1, READ, 0, 1, 0);
        x.issue(0, READ, 1, 1, 0);
        int callsSoFar = 10;
        for (int i = callsSoFar; i < 508; i++) {
            x.cycles(100);
        }
        dueWaits("it waited all the time", x, 1, 49800);
        dueTime("so many cycles", x, 49804);
        x.ready(0, true);
        Check.due("the 512th call", 2, () -> x.cycles(100));
        mostRequests();
    }

    /** Sixteen tags at a time are issued, done and taken: so many can be served in 512 calls. */
    private static void mostRequests() {
        SplitFabric x = readyFabric();
        int calls = 3;
        int requests = 0;
        while (calls + 33 <= 508) {
            for (int n = 0; n < 16; n++) {
                x.issue(n / 4, WRITE, n, 1, n % 4);
            }
            x.cycles(100);
            for (int n = 0; n < 16; n++) {
                x.take(n / 4, n % 4);
            }
            calls += 33;
            requests += 16;
        }
        dueServed("many", x, requests);
        dueService("the last one's master", x, requests - 1, 0, 3);
        dueService("the last one's tag", x, requests - 1, 1, 3);
        dueService("the last one's cycle", x, requests - 1, 5, 100 * (requests / 16 - 1) + 17);
    }
}
