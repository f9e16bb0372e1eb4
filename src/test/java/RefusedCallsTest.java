import java.util.ArrayList;
import java.util.List;

/**
 * "A call that throws changes nothing": a run is made once as it is, and then again and again with one more call at one
 * place of it. Where that call throws, every later answer must be that of the plain run.
 */
public final class RefusedCallsTest extends Kit {
    private static final int[] ODD = {Integer.MIN_VALUE, -1, 3, 4, 5, 6, 16, 64, Integer.MAX_VALUE};

    private interface Step {
        Object on(SplitFabric x);
    }

    private interface Change {
        void on(SplitFabric x);
    }

    private final List<Step> run = new ArrayList<>();
    private final List<Step> extra = new ArrayList<>();
    private final List<String> names = new ArrayList<>();
    private int refused = 0;

    public static void main(String[] args) {
        Check.sentence("A call that throws changes nothing");
        RefusedCallsTest test = new RefusedCallsTest();
        test.makeRun();
        test.addIndexesAndArguments();
        test.addRequests();
        test.addTags();
        test.compareAll();
        Check.end();
    }

    private void then(Change change) {
        run.add(answering(change));
    }

    private static Step answering(Change change) {
        return x -> {
            change.on(x);
            return "nothing";
        };
    }

    private void cycles(int n) {
        for (int i = 0; i < n; i++) {
            run.add(SplitFabric::cycle);
        }
    }

    /** Tags of every state, a full queue, a held target, a barrier and an answer on its way. */
    private void makeRun() {
        then(x -> x.data(0, 0, 11));
        then(x -> x.data(0, 3, 14));
        then(x -> x.issue(0, WRITE, 0, 4, 0));
        then(x -> x.data(0, 0, 12));
        then(x -> x.issue(0, READ, 2, 2, 1));
        then(x -> x.issue(0, READ, 60, 2, 2));
        then(x -> x.issue(1, LOCK, 16, 1, 0));
        cycles(2);
        then(x -> x.issue(1, READ, 17, 3, 1));
        then(x -> x.issue(2, BARRIER, 0, 0, 3));
        then(x -> x.issue(2, LOCK, 20, 1, 0));
        then(x -> x.base(3, 1));
        then(x -> x.issue(3, READ, 4, 4, 0));
        then(x -> x.issue(3, WRITE, 5, 1, 1));
        then(x -> x.data(3, 0, 13));
        then(x -> x.issue(3, BARRIER, 0, 0, 2));
        cycles(4);
        then(x -> x.ready(0, true));
        cycles(3);
        then(x -> x.issue(1, UNLOCK, 25, 1, 2));
        run.add(x -> x.take(0, 2));
        then(x -> x.issue(0, LOCK, 50, 1, 2));
        cycles(3);
        then(x -> x.ready(1, true));
        cycles(2);
        run.add(x -> x.reset(1));
        cycles(6);
    }

    private void with(String name, Change change) {
        names.add(name);
        extra.add(answering(change));
    }

    private void addIndexesAndArguments() {
        for (int odd : ODD) {
            with("data(" + odd + ", 0, 9)", x -> x.data(odd, 0, 9));
            with("data(0, " + odd + ", 9)", x -> x.data(0, odd, 9));
            with("ready(" + odd + ", true)", x -> x.ready(odd, true));
            with("ready(" + odd + ", false)", x -> x.ready(odd, false));
            with("cycles(" + odd + ")", x -> x.cycles(odd < 1 ? odd : odd + 100));
            with("state(" + odd + ", 0)", x -> x.state(odd, 0));
            with("state(0, " + odd + ")", x -> x.state(0, odd));
            with("base(" + odd + ", 2)", x -> x.base(odd, 2));
            with("base(0, " + odd + ")", x -> x.base(0, odd));
            with("waits(" + odd + ")", x -> x.waits(odd));
            with("reset(" + odd + ")", x -> x.reset(odd));
            with("credits(" + odd + ")", x -> x.credits(odd));
            with("holder(" + odd + ")", x -> x.holder(odd));
            with("memory(" + odd + ")", x -> x.memory(odd));
            with("service(" + odd + ", 0)", x -> x.service(odd, 0));
            with("service(0, " + odd + ")", x -> x.service(0, odd));
        }
    }

    private void addRequests() {
        for (int odd : ODD) {
            for (int kind = READ; kind <= BARRIER; kind++) {
                int k = kind;
                with("issue(" + odd + ", " + k + ", 5, 1, 3)", x -> x.issue(odd, k, 5, 1, 3));
                with("issue(0, " + k + ", 5, 1, " + odd + ")", x -> x.issue(0, k, 5, 1, odd));
                with("issue(0, " + k + ", " + odd + ", 1, 3)", x -> x.issue(0, k, odd, 1, 3));
                with("issue(0, " + k + ", 14, " + odd + ", 3)", x -> x.issue(0, k, 14, odd, 3));
            }
            with("issue(0, " + odd + ", 5, 1, 3)", x -> x.issue(0, odd, 5, 1, 3));
        }
        for (int n = 0; n < 16 * 5; n++) {
            int master = n / 20;
            int tag = n / 5 % 4;
            int kind = n % 5;
            for (int address : new int[] {2, 20, 50}) {
                with("issue(" + master + ", " + kind + ", " + address + ", 1, " + tag + ")",
                        x -> x.issue(master, kind, address, 1, tag));
            }
        }
    }

    private void addTags() {
        for (int n = 0; n < 16; n++) {
            int master = n / 4;
            int tag = n % 4;
            with("take(" + master + ", " + tag + ")", x -> x.take(master, tag));
            for (int i = -1; i <= 4; i++) {
                int at = i;
                with("word(" + master + ", " + tag + ", " + i + ")", x -> x.word(master, tag, at));
            }
        }
        for (int odd : ODD) {
            with("take(" + odd + ", 0)", x -> x.take(odd, 0));
            with("take(0, " + odd + ")", x -> x.take(0, odd));
        }
    }

    private void compareAll() {
        List<String> thrown = new ArrayList<>();
        follow(new SplitFabric(), 0, run.size(), thrown);
        thrown.removeIf(answer -> !answer.startsWith("throws."));
        Check.due("the plain run's own refused calls", "[]", () -> thrown);
        for (int place = 0; place <= run.size(); place++) {
            List<String> plain = answers(place, null);
            for (int i = 0; i < extra.size(); i++) {
                refused += compare(plain, i, place);
            }
        }
        Check.due("so many calls were refused that the test is of use", true, () -> refused > 20000);
    }

    private int compare(List<String> plain, int which, int place) {
        List<String> got = answers(place, extra.get(which));
        if (got == null) {
            return 0;
        }
        String where = names.get(which) + " behind " + place + " calls: what the others";
        Check.due(where, plain, () -> got);
        return 1;
    }

    /** All answers of the run, with one more call at a place, if there is one; null if that call does not throw. */
    private List<String> answers(int place, Step more) {
        SplitFabric x = new SplitFabric();
        List<String> all = new ArrayList<>();
        follow(x, 0, place, all);
        if (more != null && !Check.answerOf(() -> more.on(x)).startsWith("throws.")) {
            return null;
        }
        look(x, all);
        follow(x, place, run.size(), all);
        look(x, all);
        lookAtAnswers(x, all);
        drain(x, all);
        look(x, all);
        lookAtWords(x, all);
        return all;
    }

    private void follow(SplitFabric x, int from, int to, List<String> all) {
        for (int i = from; i < to; i++) {
            Step step = run.get(i);
            all.add(Check.answerOf(() -> step.on(x)));
        }
    }

    /** What is held in no answer yet shows here: data words, base classes, turns. */
    private static void drain(SplitFabric x, List<String> all) {
        for (int target = 0; target < 3; target++) {
            x.ready(target, true);
        }
        for (int i = 0; i < 12; i++) {
            all.add(Check.answerOf(x::cycle));
        }
        for (int master = 0; master < 4; master++) {
            int m = master;
            all.add(Check.answerOf(() -> x.reset(m)));
        }
        for (int n = 0; n < 16; n++) {
            int m = n % 4;
            int tag = n / 4;
            all.add(Check.answerOf(() -> {
                x.issue(m, WRITE, 32 + 4 * m, 4, tag);
                return "nothing";
            }));
        }
        for (int i = 0; i < 20; i++) {
            all.add(Check.answerOf(x::cycle));
        }
    }

    private static void look(SplitFabric x, List<String> all) {
        all.add(x.time() + " " + x.served());
        for (int n = 0; n < 16; n++) {
            all.add("state " + x.state(n / 4, n % 4));
        }
        for (int master = 0; master < 4; master++) {
            all.add("waits " + x.waits(master));
        }
        for (int target = 0; target < 3; target++) {
            all.add("target " + x.credits(target) + " " + x.holder(target));
        }
    }

    /** Only at the end of the run: this may throw, and the plain run is to be free of calls that do. */
    private static void lookAtAnswers(SplitFabric x, List<String> all) {
        for (int n = 0; n < 16; n++) {
            int master = n / 4;
            int tag = n % 4;
            all.add("word " + Check.answerOf(() -> x.word(master, tag, 0)));
        }
    }

    private static void lookAtWords(SplitFabric x, List<String> all) {
        for (int address = 0; address < 48; address++) {
            all.add("memory " + x.memory(address));
        }
        for (int i = 0; i < x.served(); i++) {
            all.add("service " + x.service(i, 1) + " " + x.service(i, 5));
        }
    }
}
