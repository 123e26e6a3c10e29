import java.math.BigInteger;

/** "Terms": when a phone takes an answer. */
public final class AnswersTest {
    private static final Checks CHECKS = new Checks();

    public static void main(String[] args) {
        answersInTurn();
        answerToWhatItHasNotSent();
        answerToWordsItHasNotSent();
        namesAreOfTheRound();
        namesAreAtLeastTheThreshold();
        namesAreItselfToo();
        namesOfStageTwoMayLackIt();
        namesOfStageOneAreOfStageZero();
        namesOfStageTwoAreOfStageOne();
        everySetOfNames();
        elseItDoesNothing();
        numbersAreTakenAsTheyAre();
        boxesAreTakenAsTheyAre();
        zerosOfOneNotNamedAreANumber();
        zerosOfOneNotNamedAreNoBox();
        CHECKS.end();
    }

    private static void answersInTurn() {
        Round round = new Round(3, 2);
        for (int stage = 0; stage < 3; stage++) {
            round.playStage();
            for (int u = 2; u >= 0; u--) {
                CHECKS.due("taken before", round.x.phone(u, 1), stage);
                CHECKS.due("stage " + stage + ": deliver(" + u + ")", round.x.deliver(u), true);
                CHECKS.due("taken behind", round.x.phone(u, 1), stage + 1);
            }
        }
        round.playStage();
        CHECKS.due("no answer to the shares", round.x.count(0), 0);
    }

    /** Phone 2 doesn't get its boxes before the masked words of others are in. */
    private static void answerToWhatItHasNotSent() {
        Round round = new Round(3, 2).playTo(1).stepAll().deliverAll();
        MaskedSum x = round.x;
        x.close();
        x.deliver(0);
        x.deliver(0);
        x.step(0);
        x.step(1);
        x.deliver(1);
        x.deliver(1);
        x.close();
        CHECKS.due("answers to all of stage 1", x.count(0), 4);
        CHECKS.due("the last one's stage", x.message(3, 0), 2);
        CHECKS.due("the last one's phone", x.message(3, 1), 2);
        CHECKS.due("an answer to what it hasn't sent: deliver(3)", x.deliver(3), false);
        CHECKS.due("phone(2, 1)", x.phone(2, 1), 1);
        CHECKS.due("the older answer is still good: deliver(0)", x.deliver(0), true);
        CHECKS.due("phone(2, 1)", x.phone(2, 1), 2);
        CHECKS.due("step(2)", x.step(2), true);
        CHECKS.due("its masked words come too late", x.deliver(2), false);
        CHECKS.due("no answer any more: step(2)", x.step(2), false);
        CHECKS.due("deliver(0)", x.deliver(0), true);
        CHECKS.due("phone(0, 1)", x.phone(0, 1), 3);
    }

    /** Phone 2 has got its boxes but has not sent its masked words: it takes no answer to them. */
    private static void answerToWordsItHasNotSent() {
        Round round = new Round(3, 2).playTo(2);
        MaskedSum x = round.x;
        x.step(0);
        x.step(1);
        round.deliverAll();
        CHECKS.due("close()", x.close(), 3);
        CHECKS.due("phone(2, 0)", x.phone(2, 0), 2);
        CHECKS.due("phone(2, 1)", x.phone(2, 1), 2);
        CHECKS.due("an answer to words not sent: deliver(2)", x.deliver(2), false);
        CHECKS.due("phone(2, 1)", x.phone(2, 1), 2);
        CHECKS.due("step(2)", x.step(2), true);
        CHECKS.due("it sends its masked words", x.message(2, 0), 2);
        CHECKS.due("too late: deliver(2)", x.deliver(2), false);
        CHECKS.due("step(2)", x.step(2), false);
    }

    /**
     * Whether phone u takes an answer of a stage that has these names, if that of the stage before had
     * those of earlier.
     */
    private static boolean takes(int n, int t, int u, int stage, int earlier, int names) {
        Round round = new Round(n, t).playTo(Math.max(0, stage - 1));
        if (stage > 0) {
            round.playStage();
            round.set(round.answerTo(u), 0, earlier).deliverAll();
        }
        round.playStage();
        int at = round.answerTo(u);
        boolean taken = round.set(at, 0, names).x.deliver(at);
        CHECKS.due("taken is counted", round.x.phone(u, 1), taken ? stage + 1 : stage);
        CHECKS.due("only then it goes on", round.x.step(u), taken);
        return taken;
    }

    private static void takes(int n, int t, int u, int stage, int earlier, int names, boolean want) {
        String text = n + " phones, threshold " + t + ", phone " + u + ", stage " + stage + ", earlier " + earlier;
        CHECKS.due(text + ", names " + names, takes(n, t, u, stage, earlier, names), want);
    }

    private static void namesAreOfTheRound() {
        for (int n = 3; n <= 8; n++) {
            int all = (1 << n) - 1;
            for (int stage = 0; stage < 3; stage++) {
                takes(n, n / 2 + 1, n - 1, stage, all, all, true);
                for (int bit = n; bit < 32; bit++) {
                    takes(n, n / 2 + 1, n - 1, stage, all, all | 1 << bit, false);
                }
                takes(n, n / 2 + 1, 0, stage, all, -1, false);
            }
        }
    }

    private static void namesAreAtLeastTheThreshold() {
        for (int n = 3; n <= 8; n++) {
            int all = (1 << n) - 1;
            for (int t = n / 2 + 1; t <= n; t++) {
                for (int stage = 0; stage < 3; stage++) {
                    takes(n, t, 0, stage, all, (1 << t) - 1, true);
                    takes(n, t, 0, stage, all, (1 << t - 1) - 1, false);
                    takes(n, t, n - 1, stage, all, all & -1 << n - t, true);
                    takes(n, t, n - 1, stage, all, all & -1 << n - t + 1, false);
                    takes(n, t, n - 1, stage, all, 0, false);
                }
            }
        }
    }

    private static void namesAreItselfToo() {
        for (int stage = 0; stage < 2; stage++) {
            for (int u = 0; u < 8; u++) {
                takes(8, 5, u, stage, 255, 255 & ~(1 << u), false);
                takes(8, 5, u, stage, 255, 255 & ~(1 << (u + 1) % 8), true);
            }
        }
    }

    private static void namesOfStageTwoMayLackIt() {
        for (int u = 0; u < 8; u++) {
            takes(8, 5, u, 2, 255, 255 & ~(1 << u), true);
        }
    }

    /** Of stage 0 as it was told then, not as the server has it. */
    private static void namesOfStageOneAreOfStageZero() {
        takes(5, 3, 1, 1, 0b01111, 0b01111, true);
        takes(5, 3, 1, 1, 0b01111, 0b01110, true);
        takes(5, 3, 1, 1, 0b01111, 0b11111, false);
        takes(5, 3, 1, 1, 0b01111, 0b10111, false);
        takes(5, 3, 1, 1, 0b10011, 0b00111, false);
        takes(5, 3, 1, 1, 0b10011, 0b10011, true);
    }

    private static void namesOfStageTwoAreOfStageOne() {
        takes(5, 3, 1, 2, 0b01111, 0b01111, true);
        takes(5, 3, 1, 2, 0b01111, 0b01101, true);
        takes(5, 3, 1, 2, 0b01111, 0b11101, false);
        takes(5, 3, 1, 2, 0b01111, 0b11111, false);
        takes(5, 3, 1, 2, 0b10011, 0b00111, false);
        takes(5, 3, 1, 2, 0b10011, 0b10011, true);
    }

    private static void everySetOfNames() {
        int[][] sizes = {{3, 2}, {3, 3}, {4, 3}, {5, 3}};
        for (int[] size : sizes) {
            int n = size[0];
            int t = size[1];
            for (int stage = 0; stage < 3; stage++) {
                for (int names = 0; names < 2 << n; names++) {
                    for (int u = 0; u < n; u++) {
                        boolean want = names < 1 << n && Integer.bitCount(names) >= t;
                        want &= stage == 2 || (names >> u & 1) == 1;
                        takes(n, t, u, stage, (1 << n) - 1, names, want);
                    }
                }
            }
        }
    }

    /** Nothing but that the message is gone; what is told to others isn't touched. */
    private static void elseItDoesNothing() {
        for (int stage = 0; stage < 3; stage++) {
            Round one = new Round(4, 3).playTo(stage).playStage();
            Round other = new Round(4, 3).playTo(stage).playStage();
            int at = one.answerTo(2);
            one.x.alter(at, 0, 16);
            CHECKS.due("stage " + stage + ": refused", one.x.deliver(at), false);
            other.x.lose(at);
            CHECKS.same("stage " + stage + ": as if lost", Snapshot.of(one.x), Snapshot.of(other.x));
            CHECKS.due("stage " + stage + ": step(2)", one.x.step(2), false);
            one.deliverAll();
            other.deliverAll();
            for (int later = stage + 1; later < 4; later++) {
                one.playStage().deliverAll();
                other.playStage().deliverAll();
                CHECKS.same("stage " + stage + ": later on", Snapshot.of(one.x), Snapshot.of(other.x));
            }
            CHECKS.due("ended without phone 2", one.x.count(1), 4);
        }
    }

    private static void numbersAreTakenAsTheyAre() {
        for (int word = 1; word < 33; word++) {
            Round round = new Round(3, 2).playStage();
            round.x.alter(1, word, -1);
            CHECKS.due("number word " + word + " altered: deliver(1)", round.x.deliver(1), true);
            CHECKS.due("then step(1)", round.x.step(1), true);
        }
    }

    private static void boxesAreTakenAsTheyAre() {
        for (int word = 1; word < 65; word++) {
            Round round = new Round(3, 2).playTo(1).playStage();
            round.x.alter(1, word, -1);
            CHECKS.due("box word " + word + " altered: deliver(1)", round.x.deliver(1), true);
            CHECKS.due("then step(1)", round.x.step(1), true);
        }
    }

    /** Phone 3 was not named, but phone 0 is told that it was: its public numbers are 0 there. */
    private static void zerosOfOneNotNamedAreANumber() {
        Round round = new Round(4, 3).stepAll().deliverOf(0b0111);
        round.x.close();
        round.x.alter(0, 0, 0b1000);
        CHECKS.due("more than were named: deliver(0)", round.x.deliver(0), true);
        round.deliverAll();
        round.x.step(0);
        BigInteger seed = Reference.share(Round.secret(0, 2), Round.secret(0, 2), 1, 0, 3, 3);
        BigInteger key = Reference.share(Round.secret(0, 0), Round.secret(0, 2), 0, 0, 3, 3);
        int[] text = {Reference.low(seed), Reference.high(seed), Reference.low(key), Reference.high(key)};
        int[] box = Reference.seal(BigInteger.ZERO, 0, 3, text);
        for (int i = 0; i < 8; i++) {
            CHECKS.due("box for one not named, word " + i, round.word(0, 24 + i), box[i]);
        }
    }

    /** Phone 3's boxes were lost, but phone 0 is told that it was named: it masks for it and can't open its box. */
    private static void zerosOfOneNotNamedAreNoBox() {
        Round round = new Round(4, 3).playTo(1).stepAll().deliverOf(0b0111);
        round.x.close();
        round.x.alter(0, 0, 0b1000);
        CHECKS.due("more than were named: deliver(0)", round.x.deliver(0), true);
        round.deliverAll().stepAll();
        int[] want = Reference.stream(Round.secret(0, 2), 0, 0, 4);
        for (int v = 1; v < 4; v++) {
            BigInteger shown = Reference.publicNumber(Round.secret(v, 0));
            int[] mask = Reference.stream(Reference.power(shown, Round.secret(0, 0)), 1, 0, 4);
            for (int i = 0; i < 4; i++) {
                want[i] += mask[i];
            }
        }
        for (int i = 0; i < 4; i++) {
            CHECKS.due("masked word " + i, round.word(0, i), want[i] + Round.inputWord(0, i));
        }
        round.deliverAll().x.close();
        round.deliverAll();
        round.x.step(0);
        CHECKS.due("no box of phone 3", round.word(0, 0), 0b0111);
        CHECKS.due("phone(0, 3)", round.x.phone(0, 3), 0);
    }
}
