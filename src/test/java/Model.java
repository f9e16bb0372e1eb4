import java.util.ArrayList;
import java.util.Comparator;
import java.util.List;
import java.util.stream.Collectors;

/**
 * The document written a second time, as near to its words as can be and in another shape than the class: every
 * request that was ever issued stays in one list, and all that is asked is looked up there.
 */
final class Model {
    static final class Request {
        int master;
        int tag;
        int kind;
        int address;
        int length;
        int[] data;
        int state = 1;
        int waited = 0;
        int[] answer = null;
        int returned = 0;
        int servedIn = 0;

        boolean open() {
            return state == 1 || state == 2;
        }

        boolean barrier() {
            return kind == 4;
        }

        boolean reads() {
            return kind == 0 || kind == 2;
        }

        boolean unmapped() {
            return !barrier() && address >= 48;
        }

        int target() {
            return barrier() || unmapped() ? -1 : address / 16;
        }

        boolean has(int word) {
            return !barrier() && word >= address && word < address + length;
        }
    }

    private final List<Request> issued = new ArrayList<>();
    private final List<Request> served = new ArrayList<>();
    private final List<List<Request>> queues = List.of(new ArrayList<>(), new ArrayList<>(), new ArrayList<>());
    private final Request[][] current = new Request[4][4];
    private final int[][] data = new int[4][4];
    private final int[] base = new int[4];
    private final boolean[] ready = new boolean[3];
    private final int[] held = {-1, -1, -1};
    private final int[] memory = new int[64];
    private int time = 0;
    private int grantFrom = 0;
    private int returnFrom = 0;

    private static void index(int at, int bound) {
        if (at < 0 || at >= bound) {
            throw new IndexOutOfBoundsException();
        }
    }

    private static void refuseArgument(boolean bad) {
        if (bad) {
            throw new IllegalArgumentException();
        }
    }

    private static void refuseState(boolean bad) {
        if (bad) {
            throw new IllegalStateException();
        }
    }

    void data(int master, int i, int word) {
        index(master, 4);
        index(i, 4);
        data[master][i] = word;
    }

    void issue(int master, int kind, int address, int length, int tag) {
        index(master, 4);
        index(tag, 4);
        refuseArgument(kind < 0 || kind > 4);
        if (kind != 4) {
            refuseArgument(address < 0 || address > 63 || length < 1 || length > 4);
            refuseArgument((kind == 2 || kind == 3) && length != 1);
            for (int word = address; word < address + length; word++) {
                refuseArgument(word > 63 || word / 16 != address / 16);
            }
        }
        refuseState(current[master][tag] != null);
        if (kind == 2) {
            refuseState(held[0] == master || held[1] == master || held[2] == master);
        }
        if (kind == 3) {
            refuseState(address > 47 || held[address / 16] != master);
        }
        if (kind == 2 || kind == 3) {
            refuseState(waiting(master).stream().anyMatch(r -> r.kind == kind));
        }
        Request r = new Request();
        r.master = master;
        r.tag = tag;
        r.kind = kind;
        r.address = address;
        r.length = length;
        r.data = data[master].clone();
        issued.add(r);
        current[master][tag] = r;
    }

    void ready(int target, boolean is) {
        index(target, 3);
        ready[target] = is;
    }

    private List<Request> waiting(int master) {
        return issued.stream().filter(r -> r.master == master && r.state == 1).collect(Collectors.toList());
    }

    private List<Request> before(Request r) {
        return issued.subList(0, issued.indexOf(r)).stream().filter(o -> o.master == r.master)
                .collect(Collectors.toList());
    }

    private boolean shareWord(Request a, Request b) {
        for (int word = 0; word < 64; word++) {
            if (a.has(word) && b.has(word)) {
                return true;
            }
        }
        return false;
    }

    private boolean eligible(Request r) {
        List<Request> before = before(r);
        if (r.state != 1 || before.stream().anyMatch(o -> o.barrier() && o.open())) {
            return false;
        }
        if (r.barrier()) {
            return before.stream().noneMatch(Request::open);
        }
        if (before.stream().anyMatch(o -> o.state == 1 && shareWord(o, r))) {
            return false;
        }
        if (r.unmapped()) {
            return true;
        }
        int holder = held[r.target()];
        return credits(r.target()) > 0 && (holder == -1 || (r.kind == 3 && holder == r.master));
    }

    private int classOf(Request r) {
        return Math.min(2, base[r.master] + r.waited / 16);
    }

    private void service() {
        for (int target = 0; target < 3; target++) {
            if (!ready[target] || queues.get(target).isEmpty()) {
                continue;
            }
            Request r = queues.get(target).remove(0);
            r.servedIn = time + 1;
            served.add(r);
            if (r.reads()) {
                r.answer = new int[r.length];
            } else {
                r.state = 3;
            }
            for (int i = 0; i < r.length; i++) {
                if (r.reads()) {
                    r.answer[i] = memory[r.address + i];
                } else {
                    memory[r.address + i] = r.data[i];
                }
            }
        }
    }

    private void giveBack() {
        for (int n = returnFrom; n < returnFrom + 16; n++) {
            Request r = current[n % 16 / 4][n % 4];
            if (r != null && r.answer != null && r.returned < r.length) {
                r.returned++;
                r.state = r.returned == r.length ? 3 : 2;
                returnFrom = n % 16 + 1;
                return;
            }
        }
    }

    private int grant() {
        List<Request> able = issued.stream().filter(this::eligible).collect(Collectors.toList());
        if (able.isEmpty()) {
            return -1;
        }
        int greatest = able.stream().mapToInt(this::classOf).max().getAsInt();
        Request r = able.stream().filter(o -> classOf(o) == greatest)
                .min(Comparator.comparingInt((Request o) -> (o.master - grantFrom + 8) % 4)
                        .thenComparingInt(issued::indexOf)).get();
        grantFrom = r.master + 1;
        r.state = r.barrier() ? 3 : r.unmapped() ? 4 : 2;
        if (r.state == 2) {
            queues.get(r.target()).add(r);
            if (r.kind == 2) {
                held[r.target()] = r.master;
            } else if (r.kind == 3) {
                held[r.target()] = -1;
            }
        }
        return r.master;
    }

    int cycle() {
        service();
        giveBack();
        int granted = grant();
        issued.stream().filter(r -> r.state == 1).forEach(r -> r.waited++);
        time++;
        return granted;
    }

    int cycles(int n) {
        refuseArgument(n < 1 || n > 100);
        int grants = 0;
        for (int i = 0; i < n; i++) {
            grants += cycle() >= 0 ? 1 : 0;
        }
        return grants;
    }

    int time() {
        return time;
    }

    int state(int master, int tag) {
        index(master, 4);
        index(tag, 4);
        return current[master][tag] == null ? 0 : current[master][tag].state;
    }

    int word(int master, int tag, int i) {
        index(master, 4);
        index(tag, 4);
        index(i, 4);
        Request r = current[master][tag];
        refuseState(r == null || r.state != 3 || !r.reads() || i >= r.length);
        return r.answer[i];
    }

    boolean take(int master, int tag) {
        index(master, 4);
        index(tag, 4);
        Request r = current[master][tag];
        refuseState(r == null || r.open());
        current[master][tag] = null;
        return r.state == 3;
    }

    void base(int master, int c) {
        index(master, 4);
        refuseArgument(c < 0 || c > 2);
        base[master] = c;
    }

    int waits(int master) {
        index(master, 4);
        List<Request> waiting = waiting(master);
        return waiting.isEmpty() ? -1 : waiting.get(0).waited;
    }

    int reset(int master) {
        index(master, 4);
        List<Request> given = waiting(master);
        for (Request r : given) {
            issued.remove(r);
            current[master][r.tag] = null;
        }
        for (int target = 0; target < 3; target++) {
            held[target] = held[target] == master ? -1 : held[target];
        }
        return given.size();
    }

    int credits(int target) {
        index(target, 3);
        return 4 - (int) issued.stream().filter(r -> r.state == 2 && r.target() == target).count();
    }

    int holder(int target) {
        index(target, 3);
        return held[target];
    }

    int memory(int address) {
        index(address, 48);
        return memory[address];
    }

    int served() {
        return served.size();
    }

    int service(int i, int what) {
        index(i, served.size());
        refuseArgument(what < 0 || what > 5);
        Request r = served.get(i);
        return new int[] {r.master, r.tag, r.kind, r.address, r.length, r.servedIn}[what];
    }
}
