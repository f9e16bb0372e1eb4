/** Each promise of the document by hand: ordinary inputs, the edges that it names, and wrong inputs. */
public final class PromisesTest extends Kit {
    public static void main(String[] args) {
        newObject();
        dataWords();
        issueRefusesIndexes();
        issueRefusesArguments();
        issueRefusesStates();
        issueRefusesLocks();
        issueRefusesUnlocks();
        firstExceptionWins();
        readiness();
        serviceComesFirst();
        queuesKeepTheirOrder();
        returnGoesRound();
        returnWaitsForService();
        grantGoesRound();
        grantByClass();
        classGrowsWithAge();
        olderGoesFirst();
        wordsInCommonWait();
        barriersHold();
        creditsLimitGrants();
        locksHold();
        unmappedFails();
        manyCycles();
        timeCounts();
        states();
        readWords();
        takes();
        baseClasses();
        waitsOfFirst();
        resets();
        creditsComeBack();
        holders();
        memoryWords();
        servedCounts();
        serviceFacts();
        throwingChangesNothing();
        useToTheEnd();
        Check.end();
    }

    // Promise 1

    private static void newObject() {
        SplitFabric x = new SplitFabric();
        Check.due("new: time", 0, x::time);
        Check.due("new: served", 0, x::served);
        for (int master = 0; master < 4; master++) {
            int m = master;
            Check.due("new: waits", NONE, () -> x.waits(m));
            for (int tag = 0; tag < 4; tag++) {
                dueState("new", x, m, tag, FREE);
            }
        }
        for (int target = 0; target < 3; target++) {
            int t = target;
            Check.due("new: credits", 4, () -> x.credits(t));
            Check.due("new: holder", NONE, () -> x.holder(t));
        }
        for (int address = 0; address < 48; address++) {
            int a = address;
            Check.due("new: memory", 0, () -> x.memory(a));
        }
        dueCycles("new", x, NONE);
        SplitFabric y = new SplitFabric();
        x.issue(0, READ, 0, 1, 0);
        dueState("new: objects share nothing", y, 0, 0, FREE);
    }

    // Promise 2

    private static void dataWords() {
        SplitFabric x = readyFabric();
        x.data(2, 0, Integer.MIN_VALUE);
        x.data(2, 1, -1);
        x.data(2, 2, 5);
        x.data(2, 3, Integer.MAX_VALUE);
        x.issue(2, WRITE, 28, 4, 1);
        x.data(2, 0, 111);
        x.data(2, 3, 222);
        x.issue(2, WRITE, 32, 4, 2);
        x.issue(1, WRITE, 40, 1, 0);
        x.cycle();
        x.data(2, 1, 333);
        x.cycles(5);
        Check.due("data: kept from the time of the issue", Integer.MIN_VALUE, () -> x.memory(28));
        Check.due("data: kept, word 1", -1, () -> x.memory(29));
        Check.due("data: kept, word 2", 5, () -> x.memory(30));
        Check.due("data: kept, word 3", Integer.MAX_VALUE, () -> x.memory(31));
        Check.due("data: new ones for the next request", 111, () -> x.memory(32));
        Check.due("data: as they were then", -1, () -> x.memory(33));
        Check.due("data: others stay", 5, () -> x.memory(34));
        Check.due("data: new word 3", 222, () -> x.memory(35));
        Check.due("data: another master has its own", 0, () -> x.memory(40));
        for (int bad : NO_MASTER) {
            Check.badIndex("data: no master " + bad, () -> x.data(bad, 0, 1));
            Check.badIndex("data: no word " + bad, () -> x.data(0, bad, 1));
        }
    }

    // Promise 3

    private static void issueRefusesIndexes() {
        SplitFabric x = new SplitFabric();
        for (int bad : NO_MASTER) {
            Check.badIndex("issue: no master " + bad, () -> x.issue(bad, READ, 0, 1, 0));
            Check.badIndex("issue: no tag " + bad, () -> x.issue(0, READ, 0, 1, bad));
            Check.badIndex("issue: no tag for a barrier " + bad, () -> x.issue(0, BARRIER, 0, 1, bad));
        }
        for (int tag = 0; tag < 4; tag++) {
            dueState("issue: nothing was issued", x, 0, tag, FREE);
        }
    }

    private static void issueRefusesArguments() {
        SplitFabric x = new SplitFabric();
        for (int kind : new int[] {-1, 5, Integer.MIN_VALUE, Integer.MAX_VALUE}) {
            Check.badArgument("issue: kind " + kind, () -> x.issue(0, kind, 0, 1, 0));
        }
        for (int kind = READ; kind <= UNLOCK; kind++) {
            int k = kind;
            for (int address : new int[] {-1, 64, Integer.MIN_VALUE, Integer.MAX_VALUE}) {
                Check.badArgument("issue: address " + address, () -> x.issue(0, k, address, 1, 0));
            }
            for (int length : new int[] {-1, 0, 5, Integer.MIN_VALUE, Integer.MAX_VALUE}) {
                Check.badArgument("issue: length " + length, () -> x.issue(0, k, 8, length, 0));
            }
        }
        for (int length = 2; length <= 4; length++) {
            int l = length;
            Check.badArgument("issue: a lock of " + l, () -> x.issue(0, LOCK, 8, l, 0));
            Check.badArgument("issue: an unlock of " + l, () -> x.issue(0, UNLOCK, 8, l, 0));
        }
        for (int border = 16; border <= 64; border += 16) {
            int b = border;
            Check.badArgument("issue: over " + b, () -> x.issue(0, READ, b - 1, 2, 0));
            Check.badArgument("issue: over " + b, () -> x.issue(0, WRITE, b - 3, 4, 0));
            Check.fine("issue: up to " + b, () -> x.issue(0, READ, b - 4, 4, b / 16 - 1));
            Check.fine("issue: from " + (b - 16), () -> x.issue(1, WRITE, b - 16, 4, b / 16 - 1));
        }
        SplitFabric y = new SplitFabric();
        Check.fine("issue: a barrier has no words", () -> y.issue(0, BARRIER, -1, 0, 0));
        Check.fine("issue: a barrier has no words", () -> y.issue(0, BARRIER, Integer.MAX_VALUE, 5, 1));
        Check.fine("issue: a barrier has no words", () -> y.issue(0, BARRIER, 15, Integer.MAX_VALUE, 2));
    }

    private static void issueRefusesStates() {
        SplitFabric x = readyFabric();
        x.issue(0, READ, 0, 2, 0);
        Check.badState("issue: the tag is WAITING", () -> x.issue(0, READ, 0, 1, 0));
        Check.badState("issue: the tag is WAITING, for a barrier", () -> x.issue(0, BARRIER, 0, 0, 0));
        Check.fine("issue: the same tag of another master", () -> x.issue(1, READ, 0, 1, 0));
        x.cycle();
        dueState("issue", x, 0, 0, GRANTED);
        Check.badState("issue: the tag is GRANTED", () -> x.issue(0, READ, 0, 1, 0));
        x.cycles(9);
        Check.badState("issue: the tag is DONE", () -> x.issue(0, READ, 0, 1, 0));
        x.take(0, 0);
        Check.fine("issue: the tag is FREE again", () -> x.issue(0, READ, 50, 1, 0));
        x.cycle();
        dueState("issue", x, 0, 0, FAILED);
        Check.badState("issue: the tag has FAILED", () -> x.issue(0, READ, 0, 1, 0));
    }

    private static void issueRefusesLocks() {
        SplitFabric x = readyFabric();
        x.issue(1, LOCK, 3, 1, 0);
        Check.badState("lock: one is WAITING", () -> x.issue(1, LOCK, 40, 1, 1));
        Check.badState("lock: one is WAITING, unmapped", () -> x.issue(1, LOCK, 60, 1, 1));
        Check.fine("lock: of another master", () -> x.issue(2, LOCK, 40, 1, 1));
        x.cycles(5);
        Check.due("lock: holder", 1, () -> x.holder(0));
        Check.badState("lock: the master holds that target", () -> x.issue(1, LOCK, 3, 1, 1));
        Check.badState("lock: the master holds a target", () -> x.issue(1, LOCK, 20, 1, 1));
        x.issue(1, UNLOCK, 4, 1, 1);
        Check.badState("lock: the unlock waits yet", () -> x.issue(1, LOCK, 20, 1, 2));
        x.cycle();
        Check.fine("lock: the master holds none any more", () -> x.issue(1, LOCK, 20, 1, 2));
        SplitFabric y = readyFabric();
        y.issue(0, LOCK, 48, 1, 0);
        Check.badState("lock: an unmapped one is WAITING", () -> y.issue(0, LOCK, 0, 1, 1));
        y.cycle();
        Check.fine("lock: an unmapped one holds nothing", () -> y.issue(0, LOCK, 0, 1, 1));
    }

    private static void issueRefusesUnlocks() {
        SplitFabric x = readyFabric();
        Check.badState("unlock: nothing is held", () -> x.issue(0, UNLOCK, 0, 1, 0));
        Check.badState("unlock: unmapped", () -> x.issue(0, UNLOCK, 55, 1, 0));
        x.issue(0, LOCK, 18, 1, 0);
        Check.badState("unlock: the lock waits yet", () -> x.issue(0, UNLOCK, 18, 1, 1));
        x.cycle();
        Check.badState("unlock: another target", () -> x.issue(0, UNLOCK, 15, 1, 1));
        Check.badState("unlock: another target", () -> x.issue(0, UNLOCK, 32, 1, 1));
        Check.badState("unlock: unmapped, with a target held", () -> x.issue(0, UNLOCK, 48, 1, 1));
        Check.badState("unlock: another master", () -> x.issue(1, UNLOCK, 18, 1, 1));
        Check.fine("unlock: any word of the target", () -> x.issue(0, UNLOCK, 31, 1, 1));
        Check.badState("unlock: one is WAITING", () -> x.issue(0, UNLOCK, 30, 1, 2));
        x.cycle();
        Check.badState("unlock: it is held no more", () -> x.issue(0, UNLOCK, 18, 1, 2));
    }

    private static void firstExceptionWins() {
        SplitFabric x = new SplitFabric();
        x.issue(0, READ, 0, 1, 0);
        Check.badIndex("first wins: tag before kind", () -> x.issue(0, 9, 0, 1, 4));
        Check.badIndex("first wins: master before address", () -> x.issue(4, READ, 99, 1, 0));
        Check.badArgument("first wins: kind before the tag's state", () -> x.issue(0, 5, 0, 1, 0));
        Check.badArgument("first wins: length before the tag's state", () -> x.issue(0, READ, 0, 0, 0));
        Check.badArgument("first wins: length before what is held", () -> x.issue(0, UNLOCK, 0, 2, 1));
        Check.badArgument("first wins: address before what is held", () -> x.issue(0, UNLOCK, 64, 1, 1));
        Check.badIndex("first wins: base", () -> x.base(4, 3));
        Check.badIndex("first wins: service", () -> x.service(0, 6));
        Check.badIndex("first wins: word", () -> x.word(0, 0, 4));
    }

    // Promise 4

    private static void readiness() {
        SplitFabric x = new SplitFabric();
        for (int target = 0; target < 3; target++) {
            x.issue(target, WRITE, 16 * target, 1, 0);
        }
        x.cycles(6);
        Check.due("ready: none is at first", 0, x::served);
        x.ready(1, true);
        x.cycle();
        Check.due("ready: only one is", 1, x::served);
        Check.due("ready: the right one", 1, () -> x.service(0, 0));
        x.ready(1, false);
        x.issue(1, WRITE, 20, 1, 1);
        x.cycles(4);
        dueState("ready: no more", x, 1, 1, GRANTED);
        x.ready(1, true);
        x.ready(1, true);
        x.cycles(2);
        dueState("ready: again", x, 1, 1, DONE);
        dueState("ready: the others are not", x, 0, 0, GRANTED);
        dueState("ready: the others are not", x, 2, 0, GRANTED);
        for (int bad : NO_TARGET) {
            Check.badIndex("ready: no target " + bad, () -> x.ready(bad, true));
            Check.badIndex("ready: no target " + bad, () -> x.ready(bad, false));
        }
    }

    // Promise 5: a cycle

    private static void serviceComesFirst() {
        SplitFabric x = readyFabric();
        x.data(0, 0, 9);
        x.issue(0, WRITE, 1, 1, 0);
        x.issue(0, READ, 1, 1, 1);
        dueCycles("service first", x, 0);
        dueState("service first: what is granted is not served at once", x, 0, 0, GRANTED);
        dueCycles("service first", x, 0);
        dueState("service first: a write is done with its service", x, 0, 0, DONE);
        dueState("service first", x, 0, 1, GRANTED);
        dueCycles("service first", x, NONE);
        dueState("service first: a word comes back in the cycle of the service", x, 0, 1, DONE);
        Check.due("service first: word", 9, () -> x.word(0, 1, 0));
        SplitFabric y = new SplitFabric();
        y.issue(0, READ, 0, 1, 0);
        y.issue(1, READ, 16, 1, 0);
        y.issue(2, READ, 32, 1, 0);
        y.issue(2, READ, 33, 1, 1);
        y.cycles(4);
        for (int target = 2; target >= 0; target--) {
            y.ready(target, true);
        }
        y.cycle();
        Check.due("service first: one of each target", 3, y::served);
        for (int i = 0; i < 3; i++) {
            int n = i;
            Check.due("service first: target 0 before 1 before 2", 16 * i, () -> y.service(n, 3));
        }
    }

    private static void queuesKeepTheirOrder() {
        SplitFabric x = new SplitFabric();
        int[] order = {0, 2, 3, 2};
        x.issue(2, WRITE, 3, 1, 0);
        x.issue(2, WRITE, 4, 1, 1);
        x.issue(3, READ, 3, 1, 0);
        x.issue(0, READ, 3, 1, 0);
        dueCycles("queue", x, order);
        x.ready(0, true);
        for (int i = 0; i < order.length; i++) {
            int n = i;
            x.cycle();
            Check.due("queue: one a cycle", i + 1, x::served);
            Check.due("queue: in the order of the grants", order[i], () -> x.service(n, 0));
        }
        x.cycle();
        Check.due("queue: none is left", 4, x::served);
    }

    private static void returnWaitsForService() {
        SplitFabric x = readyFabric();
        x.issue(0, READ, 0, 2, 0);
        x.cycles(4);
        x.take(0, 0);
        x.ready(0, false);
        x.issue(0, READ, 0, 2, 0);
        x.cycles(9);
        dueState("return: no answer before the service, by a tag used again", x, 0, 0, GRANTED);
        x.ready(0, true);
        x.cycle();
        dueState("return: one word of two, by a tag used again", x, 0, 0, GRANTED);
        x.cycle();
        dueState("return: the second word", x, 0, 0, DONE);
    }

    private static void returnGoesRound() {
        SplitFabric x = new SplitFabric();
        x.issue(0, READ, 0, 2, 1);
        x.issue(0, READ, 16, 2, 3);
        x.issue(3, READ, 32, 3, 2);
        x.cycles(3);
        x.ready(0, true);
        x.ready(1, true);
        x.ready(2, true);
        dueState("return", x, 0, 1, GRANTED);
        x.cycle();
        dueState("return: one word of (0, 1)", x, 0, 1, GRANTED);
        x.cycle();
        dueState("return: one word of (0, 3)", x, 0, 3, GRANTED);
        x.cycle();
        dueState("return: one word of (3, 2)", x, 3, 2, GRANTED);
        x.cycle();
        dueState("return: round again, (0, 1) is done", x, 0, 1, DONE);
        dueState("return: one a cycle", x, 0, 3, GRANTED);
        x.cycle();
        dueState("return: (0, 3) is done", x, 0, 3, DONE);
        x.cycle();
        dueState("return: (3, 2) has one word left", x, 3, 2, GRANTED);
        x.cycle();
        dueState("return: (3, 2) is done", x, 3, 2, DONE);
        answerIsOfTheService();
        returnBeginsBehindTheLast();
    }

    private static void answerIsOfTheService() {
        SplitFabric x = readyFabric();
        x.issue(0, READ, 4, 2, 0);
        x.data(1, 0, 77);
        x.data(1, 1, 78);
        x.issue(1, WRITE, 4, 2, 0);
        x.cycles(9);
        Check.due("return: memory", 78, () -> x.memory(5));
        Check.due("return: words are those of the service", 0, () -> x.word(0, 0, 1));
    }

    private static void returnBeginsBehindTheLast() {
        SplitFabric x = new SplitFabric();
        x.issue(1, READ, 0, 1, 1);
        x.cycle();
        x.ready(0, true);
        x.cycle();
        dueState("return: (1, 1) was chosen", x, 1, 1, DONE);
        x.ready(0, false);
        x.issue(0, READ, 0, 1, 0);
        x.issue(1, READ, 16, 1, 2);
        x.cycles(2);
        x.ready(0, true);
        x.ready(1, true);
        x.cycle();
        dueState("return: behind (1, 1) there is (1, 2)", x, 1, 2, DONE);
        dueState("return: (0, 0) comes later", x, 0, 0, GRANTED);
        x.cycle();
        dueState("return: then (0, 0)", x, 0, 0, DONE);
    }

    private static void grantGoesRound() {
        SplitFabric x = readyFabric();
        for (int master = 3; master >= 0; master--) {
            x.issue(master, READ, 0, 1, 0);
            x.issue(master, READ, 16, 1, 1);
        }
        dueCycles("grant goes round", x, 0, 1, 2, 3, 0, 1, 2, 3, NONE);
        SplitFabric y = readyFabric();
        y.issue(2, READ, 0, 1, 0);
        y.issue(1, READ, 0, 1, 0);
        dueCycles("grant: the turn begins with 0", y, 1, 2, NONE);
        y.issue(2, READ, 1, 1, 1);
        y.issue(3, READ, 1, 1, 1);
        y.issue(0, READ, 1, 1, 1);
        dueCycles("grant: from behind the last one", y, 3, 0, 2);
        SplitFabric z = readyFabric();
        z.issue(1, BARRIER, 0, 0, 0);
        dueCycles("grant: a barrier", z, 1);
        z.issue(1, READ, 60, 1, 1);
        z.issue(2, READ, 60, 1, 1);
        dueCycles("grant: a barrier counts for the turn, and so does what is unmapped", z, 2, 1);
        z.issue(1, READ, 0, 1, 2);
        z.issue(2, READ, 0, 1, 2);
        dueCycles("grant: what is unmapped counts for the turn", z, 2, 1);
    }

    private static void grantByClass() {
        SplitFabric x = readyFabric();
        x.base(3, 1);
        x.base(2, 2);
        for (int master = 0; master < 4; master++) {
            x.issue(master, READ, 16, 1, 0);
            x.issue(master, READ, 32, 1, 1);
        }
        dueCycles("grant by class", x, 2, 2, 3, 3, 0, 1, 0, 1);
    }

    private static void classGrowsWithAge() {
        int[] grown = {0, 0, 1, 1, 2, 2, 2};
        int[] cyclesWaited = {0, 15, 16, 31, 32, 47, 48};
        for (int i = 0; i < grown.length; i++) {
            for (int rival = 0; rival <= 2; rival++) {
                int wins = grown[i] > rival ? 1 : 0;
                Check.due("age " + cyclesWaited[i] + " against class " + rival, wins, agedAgainst(cyclesWaited[i], 0, rival));
            }
        }
        Check.due("age 15 on base 1 against class 2", 0, agedAgainst(15, 1, 2));
        Check.due("age 31 on base 1 against class 2", 0, agedAgainst(31, 1, 2));
        Check.due("age 40 on base 1 against class 1", 1, agedAgainst(40, 1, 1));
        Check.due("age 80 on base 2 is 2 at most", 0, agedAgainst(80, 2, 2));
    }

    /** Who is granted: master 1 after it waited, or master 0, which comes first in the turn and has waited for nothing. */
    private static Check.Call agedAgainst(int waited, int agedBase, int rivalBase) {
        SplitFabric x = new SplitFabric();
        x.base(1, agedBase);
        x.base(0, rivalBase);
        for (int tag = 0; tag < 4; tag++) {
            x.issue(3, READ, tag, 1, tag);
        }
        x.cycles(4);
        x.issue(1, READ, 0, 1, 0);
        for (int i = 0; i < waited; i++) {
            x.cycle();
        }
        x.ready(0, true);
        x.issue(0, READ, 5, 1, 0);
        return x::cycle;
    }

    private static void olderGoesFirst() {
        SplitFabric x = readyFabric();
        int[] order = {2, 0, 3, 1};
        for (int tag : order) {
            x.issue(1, READ, tag, 1, tag);
        }
        x.cycles(9);
        for (int i = 0; i < 4; i++) {
            int n = i;
            Check.due("grant: issued first, served first", order[i], () -> x.service(n, 1));
        }
        x.take(1, 2);
        x.take(1, 0);
        x.issue(1, WRITE, 9, 1, 2);
        x.issue(1, WRITE, 10, 1, 0);
        x.cycles(4);
        Check.due("grant: a tag that is used again is as old as its last issue", 2, () -> x.service(4, 1));
        ageIsOfTheRequest();
    }

    private static void ageIsOfTheRequest() {
        SplitFabric x = new SplitFabric();
        for (int tag = 0; tag < 4; tag++) {
            x.issue(3, READ, tag, 1, tag);
        }
        x.cycles(4);
        x.issue(0, READ, 8, 1, 0);
        x.cycles(20);
        x.issue(0, READ, 20, 1, 1);
        x.issue(1, READ, 21, 1, 1);
        x.base(1, 0);
        dueCycles("grant: a young request has not the age of its master's older one", x, 0, 1);
        Check.due("grant: the old one waits on", 22, () -> x.waits(0));
    }

    private static void wordsInCommonWait() {
        SplitFabric x = new SplitFabric();
        for (int tag = 0; tag < 4; tag++) {
            x.issue(3, READ, 15, 1, tag);
            x.cycle();
        }
        x.issue(0, READ, 8, 2, 0);
        x.issue(0, READ, 24, 1, 1);
        dueCycles("common: other words go", x, 0, NONE);
        SplitFabric y = readyFabric();
        y.issue(2, WRITE, 4, 4, 3);
        y.issue(2, READ, 7, 4, 0);
        y.issue(2, READ, 1, 3, 1);
        y.cycles(12);
        Check.due("common: order", 0, () -> y.service(1, 1));
        olderWaitingHoldsBack();
        unmappedWordsInCommon();
    }

    /** Master 0's lock waits for a held target; what shares its word waits behind it though others may go. */
    private static void olderWaitingHoldsBack() {
        SplitFabric x = readyFabric();
        x.issue(1, LOCK, 0, 1, 0);
        x.cycles(2);
        x.issue(1, READ, 7, 2, 1);
        x.issue(1, UNLOCK, 8, 1, 2);
        dueCycles("common: the unlock waits for the read before it", x, NONE, NONE);
        Check.due("common: given up", 2, () -> x.reset(1));
        x.issue(1, LOCK, 0, 1, 1);
        x.cycles(2);
        x.issue(1, READ, 7, 2, 2);
        x.issue(1, UNLOCK, 9, 1, 3);
        dueCycles("common: this unlock has no word in common", x, 1, 1, NONE);
        dueState("common: both done", x, 1, 2, GRANTED);
    }

    private static void unmappedWordsInCommon() {
        SplitFabric x = readyFabric();
        x.base(0, 2);
        x.issue(0, READ, 50, 2, 0);
        x.issue(0, READ, 51, 2, 1);
        dueCycles("common: unmapped", x, 0);
        dueState("common: the first failed", x, 0, 0, FAILED);
        dueState("common: the second waits", x, 0, 1, WAITING);
        dueCycles("common: unmapped", x, 0, NONE);
        dueState("common: the second failed", x, 0, 1, FAILED);
    }

    private static void barriersHold() {
        SplitFabric x = new SplitFabric();
        x.issue(0, WRITE, 0, 1, 0);
        x.issue(0, BARRIER, 0, 0, 1);
        x.issue(0, READ, 30, 1, 2);
        x.issue(0, READ, 60, 1, 3);
        x.issue(1, READ, 31, 1, 0);
        dueCycles("barrier: it waits for what is granted", x, 0, 1, NONE);
        dueState("barrier", x, 0, 1, WAITING);
        x.ready(0, true);
        dueCycles("barrier: done at once, then the others", x, 0);
        dueState("barrier: done", x, 0, 1, DONE);
        dueState("barrier: behind it", x, 0, 2, WAITING);
        dueCycles("barrier: then what stands behind", x, 0, 0, NONE);
        SplitFabric y = readyFabric();
        y.issue(0, BARRIER, 0, 0, 0);
        y.issue(0, BARRIER, 0, 0, 1);
        y.issue(0, READ, 0, 4, 2);
        y.issue(0, BARRIER, 0, 0, 3);
        dueCycles("barrier: behind a barrier, and for an answer to come back", y, 0, 0, 0, NONE, NONE, NONE, 0, NONE);
        Check.due("barrier: is not served", 1, y::served);
        Check.badState("barrier: has no words", () -> y.word(0, 3, 0));
        Check.due("barrier: was done", true, () -> y.take(0, 3));
    }

    private static void creditsLimitGrants() {
        SplitFabric x = new SplitFabric();
        for (int tag = 0; tag < 4; tag++) {
            x.issue(0, WRITE, 16 + tag, 1, tag);
            x.issue(1, WRITE, 16 + tag, 1, tag);
        }
        x.issue(2, WRITE, 2, 1, 0);
        dueCycles("credits: four", x, 0, 1, 2, 0, 1, NONE);
        Check.due("credits: none", 0, () -> x.credits(1));
        Check.due("credits: of another target", 3, () -> x.credits(0));
        x.ready(1, true);
        dueCycles("credits: one comes back before the grant", x, 0);
        Check.due("credits: taken again", 0, () -> x.credits(1));
        x.issue(3, READ, 63, 1, 0);
        dueCycles("credits: what is unmapped needs none", x, 1, 3);
    }

    private static void locksHold() {
        SplitFabric x = readyFabric();
        x.issue(0, LOCK, 20, 1, 0);
        dueCycles("lock", x, 0);
        x.issue(0, READ, 21, 1, 1);
        x.issue(1, READ, 22, 1, 1);
        x.issue(2, LOCK, 23, 1, 1);
        x.issue(3, READ, 5, 1, 1);
        dueCycles("lock: the target is held for all, its holder too", x, 3, NONE, NONE);
        x.data(0, 0, 64);
        x.issue(0, UNLOCK, 20, 1, 2);
        dueCycles("unlock: it goes by", x, 0);
        Check.due("unlock: held no more from the grant on", NONE, () -> x.holder(1));
        dueCycles("unlock: then the others", x, 1, 2, NONE);
        Check.due("unlock: writes", 64, () -> x.memory(20));
        dueState("lock: not the one of before", x, 0, 1, WAITING);
        unlockNeedsCredit();
    }

    private static void unlockNeedsCredit() {
        SplitFabric x = new SplitFabric();
        for (int tag = 0; tag < 3; tag++) {
            x.issue(3, READ, tag, 1, tag);
            x.cycle();
        }
        x.issue(0, LOCK, 9, 1, 0);
        x.cycle();
        x.issue(0, UNLOCK, 10, 1, 1);
        dueCycles("unlock: without a credit", x, NONE);
        x.ready(0, true);
        dueCycles("unlock: with a credit", x, 0);
    }

    private static void unmappedFails() {
        SplitFabric x = new SplitFabric();
        x.issue(0, READ, 48, 4, 0);
        x.issue(1, WRITE, 63, 1, 0);
        x.issue(2, LOCK, 50, 1, 0);
        dueCycles("unmapped", x, 0, 1, 2, NONE);
        for (int master = 0; master < 3; master++) {
            int m = master;
            dueState("unmapped", x, m, 0, FAILED);
            Check.badState("unmapped: no words", () -> x.word(m, 0, 0));
            Check.due("unmapped: credits", 4, () -> x.credits(m));
            Check.due("unmapped: holder", NONE, () -> x.holder(m));
        }
        Check.due("unmapped: is not served", 0, x::served);
    }

    // Promise 6

    private static void manyCycles() {
        SplitFabric x = readyFabric();
        Check.due("cycles: no grant", 0, () -> x.cycles(1));
        x.issue(0, READ, 0, 1, 0);
        x.issue(1, READ, 60, 1, 0);
        x.issue(2, BARRIER, 0, 0, 0);
        Check.due("cycles: two of three", 2, () -> x.cycles(2));
        Check.due("cycles: a barrier is a grant", 1, () -> x.cycles(100));
        Check.due("cycles: time", 103, x::time);
        for (int bad : new int[] {0, -1, 101, Integer.MIN_VALUE, Integer.MAX_VALUE}) {
            Check.badArgument("cycles " + bad, () -> x.cycles(bad));
        }
        Check.due("cycles: time", 103, x::time);
    }

    // Promise 7

    private static void timeCounts() {
        SplitFabric x = new SplitFabric();
        x.issue(0, READ, 0, 1, 0);
        Check.due("time: an issue takes none", 0, x::time);
        x.cycle();
        Check.due("time", 1, x::time);
        x.cycles(7);
        x.cycle();
        Check.due("time", 9, x::time);
        x.reset(0);
        Check.due("time: a reset of a master leaves it", 9, x::time);
    }

    // Promise 8

    private static void states() {
        SplitFabric x = new SplitFabric();
        x.issue(3, READ, 47, 1, 3);
        dueState("state", x, 3, 3, WAITING);
        x.cycle();
        dueState("state", x, 3, 3, GRANTED);
        x.ready(2, true);
        x.cycle();
        dueState("state", x, 3, 3, DONE);
        x.take(3, 3);
        dueState("state", x, 3, 3, FREE);
        x.issue(3, WRITE, 48, 1, 3);
        x.cycle();
        dueState("state", x, 3, 3, FAILED);
        for (int bad : NO_MASTER) {
            Check.badIndex("state: no master " + bad, () -> x.state(bad, 0));
            Check.badIndex("state: no tag " + bad, () -> x.state(0, bad));
        }
    }

    // Promise 9

    private static void readWords() {
        SplitFabric x = readyFabric();
        for (int i = 0; i < 4; i++) {
            write(x, 24 + i, 100 + i);
        }
        x.issue(0, READ, 24, 3, 0);
        Check.badState("word: WAITING", () -> x.word(0, 0, 0));
        x.cycles(2);
        Check.badState("word: returned, but not the last one", () -> x.word(0, 0, 0));
        x.cycles(2);
        for (int i = 0; i < 3; i++) {
            int n = i;
            Check.due("word " + i, 100 + i, () -> x.word(0, 0, n));
        }
        Check.badState("word: it has not so many", () -> x.word(0, 0, 3));
        for (int bad : NO_MASTER) {
            Check.badIndex("word: no master " + bad, () -> x.word(bad, 0, 0));
            Check.badIndex("word: no tag " + bad, () -> x.word(0, bad, 0));
            Check.badIndex("word: no word " + bad, () -> x.word(0, 0, bad));
            Check.badIndex("word: no word of a free tag " + bad, () -> x.word(1, 0, bad));
        }
        x.issue(0, LOCK, 27, 1, 1);
        x.issue(0, WRITE, 0, 2, 2);
        x.cycles(5);
        Check.due("word: of a lock", 103, () -> x.word(0, 1, 0));
        Check.badState("word: a lock has one", () -> x.word(0, 1, 1));
        Check.badState("word: of a write", () -> x.word(0, 2, 0));
        Check.badState("word: of a free tag", () -> x.word(0, 3, 0));
        x.issue(0, UNLOCK, 27, 1, 3);
        x.cycles(3);
        dueState("word", x, 0, 3, DONE);
        Check.badState("word: of an unlock", () -> x.word(0, 3, 0));
        x.take(0, 0);
        Check.badState("word: taken", () -> x.word(0, 0, 0));
    }

    // Promise 10

    private static void takes() {
        SplitFabric x = readyFabric();
        Check.badState("take: FREE", () -> x.take(0, 0));
        x.issue(0, READ, 0, 1, 0);
        Check.badState("take: WAITING", () -> x.take(0, 0));
        x.cycle();
        Check.badState("take: GRANTED", () -> x.take(0, 0));
        x.cycle();
        Check.due("take: DONE", true, () -> x.take(0, 0));
        dueState("take", x, 0, 0, FREE);
        Check.badState("take: twice", () -> x.take(0, 0));
        x.issue(0, READ, 48, 1, 0);
        x.cycle();
        Check.due("take: FAILED", false, () -> x.take(0, 0));
        dueState("take", x, 0, 0, FREE);
        for (int bad : NO_MASTER) {
            Check.badIndex("take: no master " + bad, () -> x.take(bad, 0));
            Check.badIndex("take: no tag " + bad, () -> x.take(0, bad));
        }
    }

    // Promise 11

    private static void baseClasses() {
        SplitFabric x = readyFabric();
        x.issue(0, READ, 0, 1, 0);
        x.issue(0, READ, 1, 1, 1);
        x.issue(1, READ, 0, 1, 0);
        x.issue(1, READ, 1, 1, 1);
        x.base(1, 1);
        dueCycles("base: for requests that wait, too", x, 1);
        x.base(0, 2);
        dueCycles("base", x, 0);
        x.base(0, 0);
        dueCycles("base: down again", x, 1, 0);
        for (int bad : NO_MASTER) {
            Check.badIndex("base: no master " + bad, () -> x.base(bad, 0));
        }
        for (int bad : new int[] {-1, 3, Integer.MIN_VALUE, Integer.MAX_VALUE}) {
            Check.badArgument("base: class " + bad, () -> x.base(0, bad));
        }
    }

    // Promise 12

    private static void waitsOfFirst() {
        SplitFabric x = new SplitFabric();
        for (int tag = 0; tag < 4; tag++) {
            x.issue(3, READ, tag, 1, tag);
        }
        Check.due("waits: none yet", 0, () -> x.waits(3));
        x.cycle();
        Check.due("waits: who still waits", 1, () -> x.waits(3));
        x.cycles(3);
        Check.due("waits: all are granted", NONE, () -> x.waits(3));
        x.issue(2, READ, 0, 1, 3);
        x.cycles(5);
        x.issue(2, READ, 2, 1, 0);
        x.cycles(2);
        Check.due("waits: the one issued first", 7, () -> x.waits(2));
        x.reset(2);
        Check.due("waits: none", NONE, () -> x.waits(2));
        x.issue(2, READ, 0, 1, 3);
        Check.due("waits: anew", 0, () -> x.waits(2));
        Check.due("waits: another master", NONE, () -> x.waits(1));
        for (int bad : NO_MASTER) {
            Check.badIndex("waits: no master " + bad, () -> x.waits(bad));
        }
    }

    // Promise 13

    private static void resets() {
        SplitFabric x = new SplitFabric();
        x.issue(0, LOCK, 16, 1, 0);
        x.issue(0, READ, 50, 1, 1);
        x.cycles(2);
        x.issue(0, READ, 17, 1, 2);
        x.issue(0, UNLOCK, 17, 1, 3);
        x.issue(1, READ, 18, 1, 0);
        Check.due("reset: those that wait", 2, () -> x.reset(0));
        dueState("reset: GRANTED goes on", x, 0, 0, GRANTED);
        dueState("reset: FAILED stays", x, 0, 1, FAILED);
        dueState("reset: given up", x, 0, 2, FREE);
        dueState("reset: given up", x, 0, 3, FREE);
        dueState("reset: another master's waits on", x, 1, 0, WAITING);
        Check.due("reset: holds no more", NONE, () -> x.holder(1));
        Check.due("reset: the credit stays away", 3, () -> x.credits(1));
        Check.due("reset: none", 0, () -> x.reset(0));
        dueCycles("reset: the target is free", x, 1, NONE);
        x.ready(1, true);
        x.cycles(3);
        dueState("reset: what went on is done", x, 0, 0, DONE);
        Check.due("reset: no holder by what went on", NONE, () -> x.holder(1));
        x.issue(2, LOCK, 20, 1, 0);
        x.cycle();
        Check.due("reset: of another master", 0, () -> x.reset(1));
        Check.due("reset: who holds, holds on", 2, () -> x.holder(1));
        for (int bad : NO_MASTER) {
            Check.badIndex("reset: no master " + bad, () -> x.reset(bad));
        }
        Check.due("reset: no master holds a free target", NONE, () -> x.holder(0));
        resetBarrier();
    }

    private static void resetBarrier() {
        SplitFabric x = new SplitFabric();
        x.issue(0, WRITE, 0, 1, 0);
        x.cycle();
        x.issue(0, BARRIER, 0, 0, 1);
        Check.due("reset: a barrier", 1, () -> x.reset(0));
        x.issue(0, READ, 30, 1, 2);
        dueCycles("reset: no barrier is left", x, 0);
    }

    // Promise 14

    private static void creditsComeBack() {
        SplitFabric x = readyFabric();
        x.issue(0, READ, 40, 3, 0);
        Check.due("credits: WAITING takes none", 4, () -> x.credits(2));
        x.cycle();
        Check.due("credits: GRANTED takes one", 3, () -> x.credits(2));
        x.cycles(2);
        Check.due("credits: two words of three", 3, () -> x.credits(2));
        x.cycle();
        Check.due("credits: DONE gives it back", 4, () -> x.credits(2));
        x.take(0, 0);
        Check.due("credits: taking the tag gives none", 4, () -> x.credits(2));
        for (int bad : NO_TARGET) {
            Check.badIndex("credits: no target " + bad, () -> x.credits(bad));
        }
    }

    // Promise 15

    private static void holders() {
        SplitFabric x = new SplitFabric();
        for (int target = 0; target < 3; target++) {
            int t = target;
            x.issue(t + 1, LOCK, 16 * t + 7, 1, 0);
            Check.due("holder: a lock that waits", NONE, () -> x.holder(t));
            x.cycle();
            Check.due("holder: from the grant on", t + 1, () -> x.holder(t));
        }
        x.issue(2, UNLOCK, 16, 1, 1);
        Check.due("holder: an unlock that waits", 2, () -> x.holder(1));
        x.cycle();
        Check.due("holder: no more", NONE, () -> x.holder(1));
        Check.due("holder: the others", 1, () -> x.holder(0));
        Check.due("holder: the others", 3, () -> x.holder(2));
        for (int bad : NO_TARGET) {
            Check.badIndex("holder: no target " + bad, () -> x.holder(bad));
        }
    }

    // Promise 16

    private static void memoryWords() {
        SplitFabric x = readyFabric();
        int[] edges = {0, 15, 16, 31, 32, 47};
        for (int address : edges) {
            write(x, address, 1000 + address);
        }
        for (int address : edges) {
            Check.due("memory " + address, 1000 + address, () -> x.memory(address));
        }
        Check.due("memory: a word beside", 0, () -> x.memory(1));
        x.data(0, 0, 1);
        x.data(0, 1, 2);
        x.data(0, 2, 3);
        x.issue(0, WRITE, 3, 2, 0);
        x.cycle();
        Check.due("memory: granted is not served", 0, () -> x.memory(3));
        x.cycle();
        Check.due("memory: word 0", 1, () -> x.memory(3));
        Check.due("memory: word 1", 2, () -> x.memory(4));
        Check.due("memory: no word more than its length", 0, () -> x.memory(5));
        for (int bad : new int[] {-1, 48, 63, 64, Integer.MIN_VALUE, Integer.MAX_VALUE}) {
            Check.badIndex("memory " + bad, () -> x.memory(bad));
        }
    }

    // Promise 17

    private static void servedCounts() {
        SplitFabric x = readyFabric();
        x.issue(0, READ, 0, 4, 0);
        x.issue(0, WRITE, 16, 1, 1);
        x.issue(0, READ, 60, 1, 2);
        x.cycle();
        Check.due("served: granted only", 0, x::served);
        x.cycle();
        Check.due("served: its words come yet", 1, x::served);
        x.cycles(20);
        Check.due("served: not what is unmapped", 2, x::served);
        x.take(0, 0);
        x.reset(0);
        Check.due("served: it stays", 2, x::served);
    }

    // Promise 18

    private static void serviceFacts() {
        SplitFabric x = readyFabric();
        Check.badIndex("service: none yet", () -> x.service(0, 0));
        x.cycles(10);
        x.issue(3, READ, 44, 4, 2);
        x.issue(2, LOCK, 5, 1, 1);
        x.cycles(4);
        x.issue(2, UNLOCK, 6, 1, 3);
        x.issue(1, WRITE, 17, 3, 0);
        x.cycles(6);
        int[][] facts = {{2, 1, LOCK, 5, 1, 12}, {3, 2, READ, 44, 4, 13}, {1, 0, WRITE, 17, 3, 16}, {2, 3, UNLOCK, 6, 1, 17}};
        Check.due("service: how many", facts.length, x::served);
        for (int i = 0; i < facts.length; i++) {
            for (int what = 0; what < 6; what++) {
                int n = i;
                int w = what;
                Check.due("service(" + i + ", " + what + ")", facts[i][what], () -> x.service(n, w));
            }
        }
        x.take(2, 1);
        x.issue(2, WRITE, 33, 2, 1);
        Check.due("service: a tag used again changes nothing", 5, () -> x.service(0, 3));
        for (int bad : new int[] {-1, 4, Integer.MIN_VALUE, Integer.MAX_VALUE}) {
            Check.badIndex("service: no request " + bad, () -> x.service(bad, 0));
        }
        for (int bad : new int[] {-1, 6, Integer.MIN_VALUE, Integer.MAX_VALUE}) {
            Check.badArgument("service: what " + bad, () -> x.service(0, bad));
        }
    }

    // A call that throws changes nothing

    private static void throwingChangesNothing() {
        SplitFabric x = new SplitFabric();
        x.issue(0, LOCK, 0, 1, 0);
        x.cycle();
        x.issue(0, READ, 1, 1, 1);
        Check.badState("throws", () -> x.issue(0, LOCK, 20, 1, 2));
        Check.badState("throws", () -> x.issue(0, WRITE, 20, 1, 1));
        Check.badArgument("throws", () -> x.base(0, 3));
        Check.badState("throws", () -> x.take(0, 1));
        Check.badArgument("throws", () -> x.cycles(101));
        Check.badIndex("throws", () -> x.reset(4));
        dueState("throws", x, 0, 1, WAITING);
        dueState("throws", x, 0, 2, FREE);
        Check.due("throws: holder", 0, () -> x.holder(0));
        Check.due("throws: waits", 0, () -> x.waits(0));
        Check.due("throws: time", 1, x::time);
        dueCycles("throws: it still waits for the target", x, NONE);
    }

    /** As many requests as 512 calls can have served, and then some: the calls behind are free but must not break. */
    private static void useToTheEnd() {
        SplitFabric x = readyFabric();
        int calls = 4;
        int done = 0;
        while (calls + 3 <= 512) {
            x.issue(done % 4, WRITE, done % 48, 1, 0);
            x.cycles(2);
            x.take(done % 4, 0);
            done++;
            calls += 3;
        }
        int all = done;
        Check.due("to the end: served", all, x::served);
        Check.due("to the end: the last one's cycle", 2 * all, () -> x.service(all - 1, 5));
        Check.due("to the end: the last one's address", (all - 1) % 48, () -> x.service(all - 1, 3));
        for (int i = 0; i < 2000; i++) {
            Check.fine("beyond the end", () -> {
                x.issue(0, WRITE, 0, 1, 0);
                x.cycles(2);
                x.take(0, 0);
            });
        }
    }
}
