/** Promises 7 to 10: deliver, lose, alter, message; when what arrives is taken, AnswersTest and HearingTest ask. */
public final class MailTest {
    private static final Checks CHECKS = new Checks();

    public static void main(String[] args) {
        noSuchMessage();
        orderAndRemoval();
        afterTheRound();
        alterations();
        heads();
        CHECKS.end();
    }

    private static void noSuchMessage() {
        MaskedSum x = new Round(3, 2).x;
        x.step(0);
        x.step(1);
        for (int bad : new int[] {-1, 2, 3, 56, Integer.MIN_VALUE, Integer.MAX_VALUE}) {
            CHECKS.badArgument("deliver(" + bad + ")", () -> x.deliver(bad));
            CHECKS.badArgument("lose(" + bad + ")", () -> x.lose(bad));
            CHECKS.badArgument("alter(" + bad + ", 0, 1)", () -> x.alter(bad, 0, 1));
            CHECKS.badArgument("message(" + bad + ", 0)", () -> x.message(bad, 0));
        }
        for (int bad : new int[] {-1, 4, Integer.MIN_VALUE, Integer.MAX_VALUE}) {
            CHECKS.badArgument("alter(0, " + bad + ", 1)", () -> x.alter(0, bad, 1));
        }
        for (int bad : new int[] {-1, 8, Integer.MIN_VALUE, Integer.MAX_VALUE}) {
            CHECKS.badArgument("message(0, " + bad + ")", () -> x.message(0, bad));
        }
        CHECKS.due("nothing was taken: count(0)", x.count(0), 2);
        CHECKS.fine("alter(1, 3, 1)", () -> x.alter(1, 3, 1));
        CHECKS.fine("message(1, 7)", () -> x.message(1, 7));
    }

    private static void senders(String text, MaskedSum x, int... want) {
        CHECKS.due(text + ": count(0)", x.count(0), want.length);
        for (int k = 0; k < want.length; k++) {
            CHECKS.due(text + ": message(" + k + ", 1)", x.message(k, 1), want[k]);
        }
    }

    private static void orderAndRemoval() {
        MaskedSum x = new Round(6, 4).x;
        int[] order = {3, 0, 5, 1, 4, 2};
        for (int u : order) {
            x.step(u);
        }
        senders("the oldest first", x, 3, 0, 5, 1, 4, 2);
        CHECKS.due("deliver(2)", x.deliver(2), true);
        senders("behind deliver(2)", x, 3, 0, 1, 4, 2);
        CHECKS.due("heard", x.count(6), 1 << 5);
        x.lose(0);
        senders("behind lose(0)", x, 0, 1, 4, 2);
        x.lose(3);
        senders("behind lose(3)", x, 0, 1, 4);
        CHECKS.due("lost ones aren't heard", x.count(6), 1 << 5);
        CHECKS.due("deliver(0)", x.deliver(0), true);
        CHECKS.due("deliver(1)", x.deliver(1), true);
        CHECKS.due("deliver(0)", x.deliver(0), true);
        CHECKS.due("heard", x.count(6), 0b110011);
        CHECKS.due("close()", x.close(), 1);
        senders("answers", x, 0, 1, 4, 5);
        CHECKS.due("a lost message isn't sent again: step(2)", x.step(2), false);
    }

    /** No stage is open, so that the server hears nobody; messages can still come, go and be looked at. */
    private static void afterTheRound() {
        Round round = new Round(3, 2).playStage();
        MaskedSum x = round.x;
        x.deliver(0);
        x.step(0);
        CHECKS.due("close()", x.close(), 5);
        CHECKS.due("three on their way", x.count(0), 3);
        CHECKS.due("boxes for a server that failed: deliver(2)", x.deliver(2), false);
        CHECKS.due("count(6)", x.count(6), 0);
        CHECKS.due("an answer is taken all the same: deliver(0)", x.deliver(0), true);
        CHECKS.due("phone(1, 1)", x.phone(1, 1), 1);
        CHECKS.fine("alter(0, 0, 1)", () -> x.alter(0, 0, 1));
        CHECKS.due("message(0, 4)", x.message(0, 4), 6);
        x.lose(0);
        CHECKS.due("count(0)", x.count(0), 0);
    }

    private static void alterations() {
        Round round = new Round(3, 2).stepAll();
        MaskedSum x = round.x;
        int[] before = new int[12];
        for (int i = 0; i < 12; i++) {
            before[i] = round.word(i / 4, i % 4);
        }
        x.alter(1, 2, 0xff00ff00);
        x.alter(1, 2, 0x0000ffff);
        x.alter(2, 0, 0);
        for (int i = 0; i < 12; i++) {
            int want = i == 6 ? before[i] ^ 0xff0000ff : before[i];
            CHECKS.due("word " + i, round.word(i / 4, i % 4), want);
        }
        x.alter(1, 2, 0xff0000ff);
        CHECKS.due("altered back", round.word(1, 2), before[6]);
        alteredInputs();
    }

    private static void alteredInputs() {
        Round round = new Round(3, 2).playTo(2).stepAll();
        int was = round.word(1, 0);
        round.x.alter(1, 0, was ^ was + 1000);
        round.deliverAll();
        round.x.close();
        round.deliverAll().playStage();
        CHECKS.due("altered words count as they came: total(0)", round.x.total(0), Round.sum(7, 0) + 1000);
        CHECKS.due("total(1)", round.x.total(1), Round.sum(7, 1));
    }

    private static void heads() {
        int[] sent = {4, 64, 4, 17};
        int[] answered = {33, 65, 1};
        Round round = new Round(3, 2);
        MaskedSum x = round.x;
        for (int stage = 0; stage < 4; stage++) {
            round.stepAll();
            head(x, stage, 0, sent[stage]);
            round.deliverAll();
            x.close();
            if (stage < 3) {
                head(x, stage, 1, answered[stage]);
            }
            round.deliverAll();
        }
    }

    private static void head(MaskedSum x, int stage, int server, int words) {
        for (int k = 0; k < 3; k++) {
            int at = k;
            CHECKS.due("stage", x.message(k, 0), stage);
            CHECKS.due("phone", x.message(k, 1), k);
            CHECKS.due("server's", x.message(k, 2), server);
            CHECKS.due("words", x.message(k, 3), words);
            CHECKS.fine("the last word", () -> x.message(at, 3 + words));
            CHECKS.badArgument("behind the last word", () -> x.message(at, 4 + words));
            CHECKS.fine("alter the last word", () -> x.alter(at, words - 1, 0));
            CHECKS.badArgument("alter behind the last word", () -> x.alter(at, words, 0));
        }
    }
}
