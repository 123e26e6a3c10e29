/** Promises 1 and 2. */
public final class StartTest {
    private static final Checks CHECKS = new Checks();

    public static void main(String[] args) {
        newObject();
        secretsAndInputsOfANewObject();
        goodAndBadSizes();
        startsAnew();
        startsSmaller();
        startsInEveryState();
        earlierBoxesAreGone();
        earlierSharesAreGone();
        earlierAnswersAreGone();
        badStartChangesNothing();
        CHECKS.end();
    }

    private static void newObject() {
        MaskedSum x = new MaskedSum();
        int[] want = {0, 5, 0, 0, 0, 0, 0, -1};
        for (int what = 0; what < want.length; what++) {
            CHECKS.due("new: count(" + what + ")", x.count(what), want[what]);
        }
        CHECKS.badState("new: close()", () -> x.close());
        CHECKS.badState("new: total(0)", () -> x.total(0));
        CHECKS.badArgument("new: total(4)", () -> x.total(4));
        CHECKS.badArgument("new: step(0)", () -> x.step(0));
        CHECKS.badArgument("new: phone(0, 0)", () -> x.phone(0, 0));
        CHECKS.badArgument("new: deliver(0)", () -> x.deliver(0));
        CHECKS.badArgument("new: lose(0)", () -> x.lose(0));
        CHECKS.badArgument("new: alter(0, 0, 0)", () -> x.alter(0, 0, 0));
        CHECKS.badArgument("new: message(0, 0)", () -> x.message(0, 0));
        CHECKS.fine("new: secret(7, 2, 1, 1)", () -> x.secret(7, 2, 1, 1));
        CHECKS.fine("new: input(7, 3, 1)", () -> x.input(7, 3, 1));
    }

    private static void secretsAndInputsOfANewObject() {
        MaskedSum x = new MaskedSum();
        x.start(3, 2);
        x.step(0);
        int[] ones = {1, 0, 1, 0};
        for (int i = 0; i < 4; i++) {
            CHECKS.due("public numbers of 0, word " + i, x.message(0, 4 + i), ones[i]);
        }
        Round.play(x, 3, 4);
        for (int k = 0; k < 4; k++) {
            CHECKS.due("total of inputs 0, word " + k, x.total(k), 0);
        }
    }

    private static void goodAndBadSizes() {
        for (int n = -1; n <= 10; n++) {
            for (int t = -2; t <= 11; t++) {
                MaskedSum x = new MaskedSum();
                int size = n;
                int threshold = t;
                if (n >= 3 && n <= 8 && t <= n && 2 * t > n) {
                    CHECKS.fine("start(" + n + ", " + t + ")", () -> x.start(size, threshold));
                    CHECKS.due("start(" + n + ", " + t + "), then count(1)", x.count(1), 0);
                    CHECKS.fine("phone n - 1", () -> x.step(size - 1));
                    CHECKS.badArgument("phone n", () -> x.step(size));
                } else {
                    CHECKS.badArgument("start(" + n + ", " + t + ")", () -> x.start(size, threshold));
                    CHECKS.due("start(" + n + ", " + t + "), then count(1)", x.count(1), 5);
                }
            }
        }
        MaskedSum x = new MaskedSum();
        int[] far = {Integer.MIN_VALUE, Integer.MIN_VALUE / 2 - 1, Integer.MIN_VALUE / 2, Integer.MAX_VALUE};
        for (int t : far) {
            CHECKS.badArgument("start(5, " + t + ")", () -> x.start(5, t));
            CHECKS.badArgument("start(" + t + ", 3)", () -> x.start(t, 3));
            CHECKS.badArgument("start(" + t + ", " + t + ")", () -> x.start(t, t));
        }
    }

    private static void startsAnew() {
        // Phone 1 falls out, so that seeds and a mask key are given.
        Round round = new Round(4, 3).playTo(2).stepAll().deliverOf(0b1101);
        round.x.close();
        round.deliverAll().stepAll();
        MaskedSum x = round.x;
        CHECKS.due("phone(0, 3)", x.phone(0, 3), 2);
        x.start(5, 3);
        int[] want = {0, 0, 0, 0, 0, 0, 0};
        for (int what = 0; what < want.length; what++) {
            CHECKS.due("started again: count(" + what + ")", x.count(what), want[what]);
        }
        for (int u = 0; u < 5; u++) {
            for (int what = 0; what < 4; what++) {
                CHECKS.due("started again: phone(" + u + ", " + what + ")", x.phone(u, what), 0);
            }
        }
        for (int stage = 0; stage < 4; stage++) {
            for (int u = 0; u < 5; u++) {
                CHECKS.due("started again: step(" + u + ")", x.step(u), true);
            }
            round.deliverAll();
            CHECKS.due("started again: close()", x.close(), stage + 1);
            round.deliverAll();
        }
        for (int k = 0; k < 4; k++) {
            CHECKS.due("inputs stay: total(" + k + ")", x.total(k), Round.sum(31, k));
        }
        x.start(3, 2);
        CHECKS.badState("started again: total(0)", () -> x.total(0));
    }

    /** A small round behind a big one has nothing of it in its messages and its total. */
    private static void startsSmaller() {
        Round round = new Round(8, 5).playTo(4);
        MaskedSum x = round.x;
        CHECKS.due("ended", x.count(1), 4);
        x.start(3, 2);
        int[] boxWords = {0, 8, 0, 2};
        int[] answerWords = {4, 8, 0};
        for (int stage = 0; stage < 4; stage++) {
            for (int u = 0; u < 3; u++) {
                x.step(u);
            }
            zeros(x, boxWords[stage] * 3 + (stage == 3 ? 1 : 0), boxWords[stage] > 0);
            round.deliverAll().x.close();
            if (stage < 3) {
                zeros(x, 1 + 3 * answerWords[stage], answerWords[stage] > 0);
            }
            round.deliverAll();
        }
        for (int k = 0; k < 4; k++) {
            CHECKS.due("a smaller round: total(" + k + ")", x.total(k), Round.sum(7, k));
        }
    }

    /** The words of every message from this one on are 0. */
    private static void zeros(MaskedSum x, int from, boolean any) {
        for (int k = 0; any && k < x.count(0); k++) {
            for (int i = from; i < x.message(k, 3); i++) {
                CHECKS.due("a smaller round: message " + k + ", word " + i, x.message(k, 4 + i), 0);
            }
        }
    }

    /** Started at any time, a round is as a new object's with the same secrets and inputs. */
    private static void startsInEveryState() {
        String fresh = Snapshot.of(new Round(6, 4).x);
        String sent = Snapshot.of(new Round(6, 4).stepAll().x);
        for (int stage = 0; stage < 4; stage++) {
            Round[] rounds = {new Round(8, 5).playTo(stage), new Round(8, 5).playTo(stage).stepAll(),
                new Round(8, 5).playTo(stage).playStage(), new Round(8, 5).playTo(stage).stepAll().deliverOf(0b1011)};
            rounds[3].x.close();
            for (Round round : rounds) {
                round.x.start(6, 4);
                CHECKS.same("started anew", Snapshot.of(round.x), fresh);
                for (int u = 0; u < 6; u++) {
                    round.x.step(u);
                }
                CHECKS.same("the same secrets", Snapshot.of(round.x), sent);
            }
        }
    }

    /** Phone 2's boxes came in the round before, but not in this one. */
    private static void earlierBoxesAreGone() {
        Round round = new Round(4, 3).playTo(4);
        round.x.start(4, 3);
        round.playTo(1).stepAll().deliverOf(0b1011);
        round.x.close();
        for (int k = 0; k < 3; k++) {
            for (int i = 0; i < 8; i++) {
                CHECKS.due("box of phone 2, word " + i, round.word(k, 1 + 16 + i), 0);
            }
        }
    }

    /** Shares of phones 0 and 1 came in the round before, but not in this one, which has other seeds. */
    private static void earlierSharesAreGone() {
        Round round = new Round(5, 3).playTo(4);
        for (int u = 0; u < 5; u++) {
            round.x.secret(u, 2, u, u);
        }
        round.x.start(5, 3);
        round.playTo(3).stepAll().deliverOf(0b11100);
        CHECKS.due("close()", round.x.close(), 4);
        for (int k = 0; k < 4; k++) {
            CHECKS.due("total(" + k + ")", round.x.total(k), Round.sum(31, k));
        }
        Round few = new Round(5, 3).playTo(4);
        few.x.start(5, 3);
        few.playTo(3).stepAll().deliverOf(0b11000);
        CHECKS.due("two of three: close()", few.x.close(), 5);
    }

    /** Answers taken in the round before are none in this one. */
    private static void earlierAnswersAreGone() {
        Round round = new Round(4, 3).playTo(3);
        round.x.start(4, 3);
        for (int u = 0; u < 4; u++) {
            CHECKS.due("step(" + u + ")", round.x.step(u), true);
            CHECKS.due("it begins with its public numbers", round.x.message(u, 0), 0);
            CHECKS.due("and waits: step(" + u + ")", round.x.step(u), false);
        }
    }

    private static void badStartChangesNothing() {
        Round round = new Round(3, 2).playTo(1).stepAll();
        MaskedSum x = round.x;
        CHECKS.badArgument("start(3, 1)", () -> x.start(3, 1));
        CHECKS.due("after a bad start: count(0)", x.count(0), 3);
        CHECKS.due("after a bad start: count(1)", x.count(1), 1);
        CHECKS.due("after a bad start: count(3)", x.count(3), 7);
        CHECKS.due("after a bad start: phone(2, 0)", x.phone(2, 0), 2);
    }
}
