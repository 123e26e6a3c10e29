import java.util.ArrayList;
import java.util.List;

/** A call that throws changes nothing, nor does one that only asks, in whatever state the object is. */
public final class RefusalsTest {
    private static final Checks CHECKS = new Checks();
    private static final int[] FAR = {-1, Integer.MIN_VALUE, Integer.MAX_VALUE};

    public static void main(String[] args) {
        refusedCallsChangeNothing();
        askingChangesNothing();
        refusedSecretsStay();
        refusedInputsStay();
        badArgumentComesFirst();
        CHECKS.end();
    }

    /** Objects in each state, from a new one to one whose round has ended. */
    private static List<MaskedSum> objects() {
        List<MaskedSum> all = new ArrayList<>();
        all.add(new MaskedSum());
        for (int stage = 0; stage < 4; stage++) {
            all.add(new Round(4, 3).playTo(stage).x);
            all.add(new Round(4, 3).playTo(stage).stepAll().x);
            all.add(new Round(4, 3).playTo(stage).playStage().x);
            all.add(new Round(4, 3).playTo(stage).stepAll().deliverOf(0b1010).x);
            MaskedSum failed = new Round(4, 3).playTo(stage).stepAll().x;
            failed.deliver(0);
            failed.close();
            all.add(failed);
        }
        return all;
    }

    private static void refused(String text, MaskedSum x, Checks.Deed deed) {
        String before = Snapshot.of(x);
        CHECKS.badArgument(text, deed);
        CHECKS.same(text + " leaves all as it was", Snapshot.of(x), before);
    }

    private static void refusedCallsChangeNothing() {
        for (MaskedSum x : objects()) {
            int size = x.count(0);
            refused("start(2, 2)", x, () -> x.start(2, 2));
            refused("start(9, 5)", x, () -> x.start(9, 5));
            refused("start(4, 2)", x, () -> x.start(4, 2));
            refused("start(4, 5)", x, () -> x.start(4, 5));
            refused("secret(8, 0, 1, 1)", x, () -> x.secret(8, 0, 1, 1));
            refused("secret(0, 3, 1, 1)", x, () -> x.secret(0, 3, 1, 1));
            refused("input(8, 0, 1)", x, () -> x.input(8, 0, 1));
            refused("input(0, 4, 1)", x, () -> x.input(0, 4, 1));
            refused("step(4)", x, () -> x.step(4));
            refused("deliver(size)", x, () -> x.deliver(size));
            refused("lose(size)", x, () -> x.lose(size));
            refused("alter(size, 0, 1)", x, () -> x.alter(size, 0, 1));
            refused("message(size, 0)", x, () -> x.message(size, 0));
            refused("total(4)", x, () -> x.total(4));
            refused("phone(4, 0)", x, () -> x.phone(4, 0));
            refused("phone(0, 4)", x, () -> x.phone(0, 4));
            refused("stream(1, 1, 1, 1, 64)", x, () -> x.stream(1, 1, 1, 1, 64));
            for (int far : FAR) {
                refusedFar(x, far);
            }
            for (int k = 0; k < size; k++) {
                refusedWords(x, k, x.message(k, 3));
            }
        }
    }

    private static void refusedFar(MaskedSum x, int far) {
        refused("start(far, 2)", x, () -> x.start(far, 2));
        refused("start(3, far)", x, () -> x.start(3, far));
        refused("secret(far, 0, 1, 1)", x, () -> x.secret(far, 0, 1, 1));
        refused("secret(0, far, 1, 1)", x, () -> x.secret(0, far, 1, 1));
        refused("input(far, 0, 1)", x, () -> x.input(far, 0, 1));
        refused("input(0, far, 1)", x, () -> x.input(0, far, 1));
        refused("step(far)", x, () -> x.step(far));
        refused("deliver(far)", x, () -> x.deliver(far));
        refused("lose(far)", x, () -> x.lose(far));
        refused("alter(far, 0, 1)", x, () -> x.alter(far, 0, 1));
        refused("alter(0, far, 1)", x, () -> x.alter(0, far, 1));
        refused("message(far, 0)", x, () -> x.message(far, 0));
        refused("message(0, far)", x, () -> x.message(0, far));
        refused("total(far)", x, () -> x.total(far));
        refused("phone(far, 0)", x, () -> x.phone(far, 0));
        refused("phone(0, far)", x, () -> x.phone(0, far));
        refused("stream(1, 1, 1, 1, far)", x, () -> x.stream(1, 1, 1, 1, far));
    }

    private static void refusedWords(MaskedSum x, int k, int words) {
        refused("alter behind the last word", x, () -> x.alter(k, words, 1));
        refused("message behind the last word", x, () -> x.message(k, 4 + words));
        refused("alter before the first word", x, () -> x.alter(k, -1, 1));
        refused("message before the first what", x, () -> x.message(k, -1));
    }

    private static void askingChangesNothing() {
        for (MaskedSum x : objects()) {
            String before = Snapshot.of(x);
            x.stream(1, 2, 3, 4, 5);
            x.stream(-1, -1, -1, -1, 63);
            CHECKS.same("asked again", Snapshot.of(x), before);
        }
    }

    /** Shown by the next round, as secrets stay. */
    private static void refusedSecretsStay() {
        Round round = new Round(3, 2).stepAll();
        String before = Snapshot.of(round.x);
        for (int u = 0; u < 3; u++) {
            for (int which = 0; which < 3; which++) {
                int phone = u;
                int w = which;
                CHECKS.badState("secret of one that has sent", () -> round.x.secret(phone, w, 1, 1));
            }
        }
        CHECKS.same("nothing shows", Snapshot.of(round.x), before);
        round.x.start(3, 2);
        CHECKS.same("the same public numbers", Snapshot.of(round.stepAll().x), before);
        Round other = new Round(3, 2).stepAll();
        for (int stage = 0; stage < 4; stage++) {
            CHECKS.same("stage " + stage + " goes on the same", Snapshot.of(round.x), Snapshot.of(other.x));
            round.deliverAll().x.close();
            other.deliverAll().x.close();
            if (stage < 3) {
                round.deliverAll().stepAll();
                other.deliverAll().stepAll();
            }
        }
        CHECKS.due("ended", round.x.count(1), 4);
    }

    private static void refusedInputsStay() {
        Round round = new Round(3, 2).playTo(2).stepAll();
        for (int u = 0; u < 3; u++) {
            for (int k = 0; k < 4; k++) {
                int phone = u;
                int word = k;
                CHECKS.badState("input of one that has sent", () -> round.x.input(phone, word, 99));
            }
        }
        round.x.start(3, 2);
        round.playTo(4);
        for (int k = 0; k < 4; k++) {
            CHECKS.due("the next round's total(" + k + ")", round.x.total(k), Round.sum(7, k));
        }
    }

    /** Where both could be thrown. */
    private static void badArgumentComesFirst() {
        MaskedSum x = new Round(3, 2).playTo(2).stepAll().x;
        CHECKS.badArgument("secret(0, 3, 1, 1)", () -> x.secret(0, 3, 1, 1));
        CHECKS.badArgument("secret(0, -1, 1, 1)", () -> x.secret(0, -1, 1, 1));
        CHECKS.badArgument("input(0, 4, 1)", () -> x.input(0, 4, 1));
        CHECKS.badArgument("input(0, -1, 1)", () -> x.input(0, -1, 1));
        CHECKS.badArgument("total(4)", () -> x.total(4));
        CHECKS.badArgument("total(-1)", () -> x.total(-1));
        MaskedSum fresh = new MaskedSum();
        CHECKS.badArgument("new: step(0)", () -> fresh.step(0));
        CHECKS.badArgument("new: total(4)", () -> fresh.total(4));
    }
}
