import java.util.ArrayList;
import java.util.Collections;
import java.util.List;

/** "What it is": an object is used for 512 calls; all of them answer rightly, in the biggest rounds too. */
public final class LimitTest {
    private static final Checks CHECKS = new Checks();
    private static final int LIMIT = 512;

    public static void main(String[] args) {
        bigRoundsOneBehindTheOther();
        startsAlone();
        startsWithMessagesOnTheirWay();
        mostMessagesAtOnce();
        refusedCallsAlone();
        streamsAlone();
        CHECKS.end();
    }

    /** The calls of a whole round of eight phones, each with the answer that is due. */
    private static List<String> wholeRound(int t) {
        List<String> script = new ArrayList<>(List.of("start " + t + " 0"));
        for (int stage = 0; stage < 4; stage++) {
            for (int u = 0; u < 8; u++) {
                script.add("step " + u + " 1");
            }
            script.addAll(Collections.nCopies(8, "deliver 0 1"));
            script.add("close 0 " + (stage + 1));
            script.addAll(Collections.nCopies(stage < 3 ? 8 : 0, "deliver 0 1"));
        }
        script.add("total 3 0");
        return script;
    }

    private static int call(MaskedSum x, String name, int argument) {
        switch (name) {
            case "start":
                x.start(8, argument);
                return 0;
            case "step":
                return x.step(argument) ? 1 : 0;
            case "deliver":
                return x.deliver(argument) ? 1 : 0;
            case "close":
                return x.close();
            default:
                return x.total(argument);
        }
    }

    /** Eight phones in round after round, until the calls are used up in the midst of the sixth. */
    private static void bigRoundsOneBehindTheOther() {
        List<String> script = new ArrayList<>();
        for (int round = 0; script.size() < LIMIT; round++) {
            script.addAll(wholeRound(5 + round % 4));
        }
        MaskedSum x = new MaskedSum();
        for (int i = 0; i < LIMIT; i++) {
            String[] parts = script.get(i).split(" ");
            int got = call(x, parts[0], Integer.parseInt(parts[1]));
            CHECKS.due("call " + (i + 1) + ": " + parts[0], got, Integer.parseInt(parts[2]));
        }
    }

    private static void startsAlone() {
        MaskedSum x = new MaskedSum();
        for (int i = 0; i < LIMIT - 2; i++) {
            int n = 3 + i % 6;
            x.start(n, n);
        }
        CHECKS.due("step(0)", x.step(0), true);
        CHECKS.due("count(0)", x.count(0), 1);
    }

    private static void startsWithMessagesOnTheirWay() {
        MaskedSum x = new MaskedSum();
        for (int i = 0; i < LIMIT / 4; i++) {
            x.start(8, 8);
            CHECKS.due("step(7)", x.step(7), true);
            CHECKS.due("step(0)", x.step(0), true);
            CHECKS.due("count(0)", x.count(0), 2);
        }
    }

    /** Three phones of eight lag behind: their answers of two stages are on their way, with those of others. */
    private static void mostMessagesAtOnce() {
        Round round = new Round(8, 5).playTo(1).stepAll().deliverAll();
        MaskedSum x = round.x;
        x.close();
        for (int u = 0; u < 5; u++) {
            x.deliver(0);
            x.step(u);
        }
        for (int i = 0; i < 5; i++) {
            CHECKS.due("masked words: deliver(3)", x.deliver(3), true);
        }
        CHECKS.due("close()", x.close(), 3);
        CHECKS.due("count(0)", x.count(0), 11);
        for (int u = 0; u < 5; u++) {
            CHECKS.due("deliver(3)", x.deliver(3), true);
            CHECKS.due("step(" + u + ")", x.step(u), true);
        }
        for (int u = 5; u < 8; u++) {
            CHECKS.due("the older answer: deliver(0)", x.deliver(0), true);
            CHECKS.due("step(" + u + ")", x.step(u), true);
        }
        CHECKS.due("count(0)", x.count(0), 11);
        int[] phones = {5, 6, 7, 0, 1, 2, 3, 4, 5, 6, 7};
        int[] stages = {2, 2, 2, 3, 3, 3, 3, 3, 2, 2, 2};
        for (int k = 0; k < 11; k++) {
            CHECKS.due("message(" + k + ", 0)", x.message(k, 0), stages[k]);
            CHECKS.due("message(" + k + ", 1)", x.message(k, 1), phones[k]);
            CHECKS.due("message(" + k + ", 2)", x.message(k, 2), k < 3 ? 1 : 0);
        }
        int taken = 0;
        for (int k = 10; k >= 0; k--) {
            taken += x.deliver(k) ? 1 : 0;
        }
        CHECKS.due("shares and answers, but no masked words", taken, 8);
        CHECKS.due("close()", x.close(), 4);
        for (int k = 0; k < 4; k++) {
            CHECKS.due("total(" + k + ")", x.total(k), Round.sum(31, k));
        }
    }

    private static void refusedCallsAlone() {
        MaskedSum x = new MaskedSum();
        for (int i = 0; i < LIMIT - 1; i++) {
            CHECKS.badArgument("deliver(0)", () -> x.deliver(0));
        }
        CHECKS.due("count(1)", x.count(1), 5);
    }

    private static void streamsAlone() {
        MaskedSum x = new MaskedSum();
        for (int i = 0; i < LIMIT; i++) {
            int[] want = Reference.stream(Reference.number(i, -i), i, -i, 64);
            CHECKS.due("stream " + i, x.stream(i, -i, i, -i, i % 64), want[i % 64]);
        }
    }
}
