import java.util.ArrayList;

/**
 * A fabric that joins four masters and three targets. Masters issue requests by tags, a grant a cycle
 * sends one of them to its target, targets serve in order, and answers come back a word a cycle.
 */
public final class SplitFabric {
    public static final int READ = 0;
    public static final int WRITE = 1;
    public static final int LOCK = 2;
    public static final int UNLOCK = 3;
    public static final int BARRIER = 4;
    public static final int FREE = 0;
    public static final int WAITING = 1;
    public static final int GRANTED = 2;
    public static final int DONE = 3;
    public static final int FAILED = 4;
    public static final int NONE = -1;

    private static final int MASTERS = 4;
    private static final int TAGS = 4;
    private static final int TARGETS = 3;
    private static final int WORDS_OF_A_TARGET = 16;
    private static final int MAPPED = TARGETS * WORDS_OF_A_TARGET;
    private static final int ADDRESSES = 64;
    private static final int WORDS_AT_MOST = 4;
    private static final int ALL_CREDITS = 4;
    private static final int GREATEST_CLASS = 2;
    private static final int CYCLES_A_CLASS = 16;
    private static final int CYCLES_AT_MOST = 100;
    private static final int FACTS = 6;
    /** An object is used for 512 calls, and each of them issues one request at most. */
    private static final int SERVED_AT_MOST = 512;

    private final Tag[] tags = new Tag[MASTERS * TAGS];
    private final Target[] targets = new Target[TARGETS];
    private final int[] words = new int[MAPPED];
    private final int[][] dataOfMaster = new int[MASTERS][WORDS_AT_MOST];
    private final int[] baseOfMaster = new int[MASTERS];
    private final ArrayList<Served> log = new ArrayList<>();
    private int cyclesDone = 0;
    private int issued = 0;
    /** The last ones, so that the turn begins with master 0 and with tag 0. */
    private int lastGranted = MASTERS - 1;
    private int lastReturned = MASTERS * TAGS - 1;

    public SplitFabric() {
        for (int place = 0; place < MASTERS * TAGS; place++) {
            tags[place] = new Tag(place / TAGS, place % TAGS);
        }
        for (int target = 0; target < TARGETS; target++) {
            targets[target] = new Target();
        }
    }

    public void data(int master, int i, int word) throws IndexOutOfBoundsException {
        checkIndex(master, MASTERS);
        checkIndex(i, WORDS_AT_MOST);
        dataOfMaster[master][i] = word;
    }

    public void issue(int master, int kind, int address, int length, int tag)
            throws IndexOutOfBoundsException, IllegalArgumentException, IllegalStateException {
        checkIndex(master, MASTERS);
        checkIndex(tag, TAGS);
        checkRequest(kind, address, length);
        Tag used = tagOf(master, tag);
        checkState(used.state == FREE);
        if (kind == LOCK) {
            checkState(!holdsSome(master) && !hasWaiting(master, LOCK));
        }
        if (kind == UNLOCK) {
            checkState(holdsTargetOf(master, address) && !hasWaiting(master, UNLOCK));
        }
        if (kind == BARRIER) {
            used.begin(kind, 0, 0, issued);
        } else {
            used.begin(kind, address, length, issued);
            used.keep(dataOfMaster[master], 0);
        }
        issued++;
    }

    public void ready(int target, boolean is) throws IndexOutOfBoundsException {
        checkIndex(target, TARGETS);
        targets[target].isReady = is;
    }

    public int cycle() {
        cyclesDone++;
        serveTargets();
        returnNextWord();
        Tag granted = chooseGrant();
        if (granted != null) {
            grant(granted);
        }
        ageWaiting();
        return granted == null ? NONE : granted.master;
    }

    public int cycles(int n) throws IllegalArgumentException {
        checkArgument(n >= 1 && n <= CYCLES_AT_MOST);
        int grants = 0;
        for (int done = 0; done < n; done++) {
            if (cycle() != NONE) {
                grants++;
            }
        }
        return grants;
    }

    public int time() {
        return cyclesDone;
    }

    public int state(int master, int tag) throws IndexOutOfBoundsException {
        checkIndex(master, MASTERS);
        checkIndex(tag, TAGS);
        return tagOf(master, tag).state;
    }

    public int word(int master, int tag, int i) throws IndexOutOfBoundsException, IllegalStateException {
        checkIndex(master, MASTERS);
        checkIndex(tag, TAGS);
        checkIndex(i, WORDS_AT_MOST);
        Tag read = tagOf(master, tag);
        checkState(read.state == DONE && read.isReading() && i < read.length);
        return read.kept[i];
    }

    public boolean take(int master, int tag) throws IndexOutOfBoundsException, IllegalStateException {
        checkIndex(master, MASTERS);
        checkIndex(tag, TAGS);
        Tag taken = tagOf(master, tag);
        checkState(taken.state == DONE || taken.state == FAILED);
        boolean wasDone = taken.state == DONE;
        taken.state = FREE;
        return wasDone;
    }

    public void base(int master, int c) throws IndexOutOfBoundsException, IllegalArgumentException {
        checkIndex(master, MASTERS);
        checkArgument(c >= 0 && c <= GREATEST_CLASS);
        baseOfMaster[master] = c;
    }

    public int waits(int master) throws IndexOutOfBoundsException {
        checkIndex(master, MASTERS);
        Tag first = null;
        for (int number = 0; number < TAGS; number++) {
            Tag tag = tagOf(master, number);
            if (tag.state == WAITING && (first == null || tag.isBefore(first))) {
                first = tag;
            }
        }
        return first == null ? NONE : first.waited;
    }

    public int reset(int master) throws IndexOutOfBoundsException {
        checkIndex(master, MASTERS);
        int givenUp = 0;
        for (int number = 0; number < TAGS; number++) {
            Tag tag = tagOf(master, number);
            if (tag.state == WAITING) {
                tag.state = FREE;
                givenUp++;
            }
        }
        for (int target = 0; target < TARGETS; target++) {
            if (targets[target].heldBy == master) {
                targets[target].heldBy = NONE;
            }
        }
        return givenUp;
    }

    public int credits(int target) throws IndexOutOfBoundsException {
        checkIndex(target, TARGETS);
        return targets[target].creditsLeft;
    }

    public int holder(int target) throws IndexOutOfBoundsException {
        checkIndex(target, TARGETS);
        return targets[target].heldBy;
    }

    public int memory(int address) throws IndexOutOfBoundsException {
        checkIndex(address, MAPPED);
        return words[address];
    }

    public int served() {
        return log.size();
    }

    public int service(int i, int what) throws IndexOutOfBoundsException, IllegalArgumentException {
        checkIndex(i, log.size());
        checkArgument(what >= 0 && what < FACTS);
        return log.get(i).fact(what);
    }

    private static void checkIndex(int index, int bound) {
        if (index < 0 || index >= bound) {
            throw new IndexOutOfBoundsException();
        }
    }

    private static void checkArgument(boolean holds) {
        if (!holds) {
            throw new IllegalArgumentException();
        }
    }

    private static void checkState(boolean holds) {
        if (!holds) {
            throw new IllegalStateException();
        }
    }

    private static void checkRequest(int kind, int address, int length) {
        checkArgument(kind >= READ && kind <= BARRIER);
        if (kind == BARRIER) {
            return;
        }
        int longest = kind == LOCK || kind == UNLOCK ? 1 : WORDS_AT_MOST;
        checkArgument(address >= 0 && address < ADDRESSES);
        checkArgument(length >= 1 && length <= longest);
        // What is unmapped is as wide as a target, so that one test is enough for both.
        checkArgument(address / WORDS_OF_A_TARGET == (address + length - 1) / WORDS_OF_A_TARGET);
    }

    private Tag tagOf(int master, int number) {
        return tags[TAGS * master + number];
    }

    private Target targetOf(Tag tag) {
        return targets[tag.address / WORDS_OF_A_TARGET];
    }

    private boolean holdsSome(int master) {
        for (int target = 0; target < TARGETS; target++) {
            if (targets[target].heldBy == master) {
                return true;
            }
        }
        return false;
    }

    private boolean holdsTargetOf(int master, int address) {
        return address < MAPPED && targets[address / WORDS_OF_A_TARGET].heldBy == master;
    }

    private boolean hasWaiting(int master, int kind) {
        for (int number = 0; number < TAGS; number++) {
            Tag tag = tagOf(master, number);
            if (tag.state == WAITING && tag.kind == kind) {
                return true;
            }
        }
        return false;
    }

    private void serveTargets() {
        for (int target = 0; target < TARGETS; target++) {
            if (targets[target].isReady && targets[target].queued > 0) {
                serve(tags[targets[target].leave()]);
            }
        }
    }

    private void serve(Tag tag) {
        if (log.size() < SERVED_AT_MOST) {
            log.add(new Served(tag, cyclesDone));
        }
        if (tag.isReading()) {
            tag.keep(words, tag.address);
            tag.isAnswered = true;
        } else {
            System.arraycopy(tag.kept, 0, words, tag.address, tag.length);
            finish(tag);
        }
    }

    private void finish(Tag tag) {
        tag.state = DONE;
        targetOf(tag).creditsLeft++;
    }

    private void returnNextWord() {
        for (int step = 1; step <= MASTERS * TAGS; step++) {
            int place = (lastReturned + step) % (MASTERS * TAGS);
            Tag tag = tags[place];
            if (tag.state == GRANTED && tag.isAnswered) {
                lastReturned = place;
                tag.returned++;
                if (tag.returned == tag.length) {
                    finish(tag);
                }
                return;
            }
        }
    }

    private Tag chooseGrant() {
        Tag best = null;
        for (int step = 1; step <= MASTERS; step++) {
            int master = (lastGranted + step) % MASTERS;
            for (int number = 0; number < TAGS; number++) {
                Tag tag = tagOf(master, number);
                if (isEligible(tag) && (best == null || goesBefore(tag, best))) {
                    best = tag;
                }
            }
        }
        return best;
    }

    /** Masters are gone through in turn, so that of two with the same class the later one never goes before. */
    private boolean goesBefore(Tag tag, Tag best) {
        int more = classOf(tag) - classOf(best);
        return more > 0 || (more == 0 && tag.master == best.master && tag.isBefore(best));
    }

    private int classOf(Tag tag) {
        return Math.min(baseOfMaster[tag.master] + tag.waited / CYCLES_A_CLASS, GREATEST_CLASS);
    }

    private boolean isEligible(Tag tag) {
        if (tag.state != WAITING) {
            return false;
        }
        for (int number = 0; number < TAGS; number++) {
            Tag other = tagOf(tag.master, number);
            if (other.isBefore(tag) && holdsBack(other, tag)) {
                return false;
            }
        }
        return tag.kind == BARRIER || tag.isUnmapped() || isAdmitted(tag);
    }

    private static boolean holdsBack(Tag earlier, Tag tag) {
        if (earlier.kind == BARRIER || tag.kind == BARRIER) {
            return earlier.isOpen();
        }
        return earlier.state == WAITING && earlier.overlaps(tag);
    }

    private boolean isAdmitted(Tag tag) {
        Target target = targetOf(tag);
        boolean ownUnlock = tag.kind == UNLOCK && target.heldBy == tag.master;
        return target.creditsLeft > 0 && (target.heldBy == NONE || ownUnlock);
    }

    private void grant(Tag tag) {
        lastGranted = tag.master;
        if (tag.kind == BARRIER) {
            tag.state = DONE;
        } else if (tag.isUnmapped()) {
            tag.state = FAILED;
        } else {
            tag.state = GRANTED;
            enter(tag, targetOf(tag));
        }
    }

    private static void enter(Tag tag, Target target) {
        target.creditsLeft--;
        target.join(TAGS * tag.master + tag.number);
        if (tag.kind == LOCK) {
            target.heldBy = tag.master;
        }
        if (tag.kind == UNLOCK) {
            target.heldBy = NONE;
        }
    }

    private void ageWaiting() {
        for (int place = 0; place < MASTERS * TAGS; place++) {
            if (tags[place].state == WAITING) {
                tags[place].waited++;
            }
        }
    }

    /** A tag of a master, with the request that it was issued with last. */
    private static final class Tag {
        final int master;
        final int number;
        /** The data of a request that writes, the answer of one that reads: none needs both. */
        final int[] kept = new int[WORDS_AT_MOST];
        int state = FREE;
        int kind = READ;
        int address = 0;
        int length = 0;
        int order = 0;
        int waited = 0;
        boolean isAnswered = false;
        int returned = 0;

        Tag(int master, int number) {
            this.master = master;
            this.number = number;
        }

        void begin(int newKind, int newAddress, int newLength, int newOrder) {
            state = WAITING;
            kind = newKind;
            address = newAddress;
            length = newLength;
            order = newOrder;
            waited = 0;
            isAnswered = false;
            returned = 0;
        }

        void keep(int[] from, int start) {
            System.arraycopy(from, start, kept, 0, length);
        }

        boolean isOpen() {
            return state == WAITING || state == GRANTED;
        }

        boolean isReading() {
            return kind == READ || kind == LOCK;
        }

        boolean isUnmapped() {
            return address >= MAPPED;
        }

        boolean isBefore(Tag other) {
            return order < other.order;
        }

        boolean overlaps(Tag other) {
            return address < other.address + other.length && other.address < address + length;
        }
    }

    /** A target without its words: the fabric has those of all targets in one row. */
    private static final class Target {
        /** Who is queued has a credit, so that there are never more than credits. */
        final int[] queue = new int[ALL_CREDITS];
        int queued = 0;
        int creditsLeft = ALL_CREDITS;
        int heldBy = NONE;
        boolean isReady = false;

        void join(int place) {
            if (queued < ALL_CREDITS) {
                queue[queued] = place;
                queued++;
            }
        }

        int leave() {
            int first = queue[0];
            if (queued > 0) {
                queued--;
                System.arraycopy(queue, 1, queue, 0, queued);
            }
            return first;
        }
    }

    /** A request as it was when it was served: its tag may be used again later. */
    private static final class Served {
        final int master;
        final int tag;
        final int kind;
        final int address;
        final int length;
        final int inCycle;

        Served(Tag from, int inCycle) {
            this.master = from.master;
            this.tag = from.number;
            this.kind = from.kind;
            this.address = from.address;
            this.length = from.length;
            this.inCycle = inCycle;
        }

        int fact(int what) {
            switch (what) {
                case 0: return master;
                case 1: return tag;
                case 2: return kind;
                case 3: return address;
                case 4: return length;
                default: return inCycle;
            }
        }
    }
}
