import java.math.BigInteger;
import java.util.Arrays;

/** Promise 5: when a phone sends, and what. */
public final class StepTest {
    private static final Checks CHECKS = new Checks();

    public static void main(String[] args) {
        whenAPhoneSends();
        noSuchPhoneAndNoRound();
        publicNumbers();
        boxes();
        maskedWords();
        shares();
        sharesWithoutOneBox();
        boxInAnotherOnesPlace();
        boxByAnotherNumber();
        whatItWasToldCounts();
        CHECKS.end();
    }

    private static void whenAPhoneSends() {
        Round round = new Round(3, 2);
        MaskedSum x = round.x;
        for (int stage = 0; stage < 4; stage++) {
            for (int u = 0; u < 3; u++) {
                CHECKS.due("stage " + stage + ": step(" + u + ")", x.step(u), true);
                CHECKS.due("stage " + stage + ": step(" + u + ") again", x.step(u), false);
                CHECKS.due("stage " + stage + ": count(0)", x.count(0), u + 1);
                CHECKS.due("its stage", x.message(u, 0), stage);
                CHECKS.due("its phone", x.message(u, 1), u);
                CHECKS.due("it is no answer", x.message(u, 2), 0);
            }
            round.deliverAll();
            CHECKS.due("heard, no answer: step(0)", x.step(0), false);
            if (stage < 3) {
                x.close();
                CHECKS.due("answer on its way: step(0)", x.step(0), false);
                round.deliverAll();
            }
        }
        CHECKS.due("all is sent: step(0)", x.step(0), false);
        lateSteps();
    }

    /** A phone does its next even if the server has gone on. */
    private static void lateSteps() {
        Round round = new Round(3, 2);
        MaskedSum x = round.x;
        x.step(0);
        x.step(1);
        round.deliverAll().x.close();
        CHECKS.due("stage 1 is open: step(2)", x.step(2), true);
        CHECKS.due("its stage", x.message(2, 0), 0);
    }

    private static void noSuchPhoneAndNoRound() {
        MaskedSum x = new Round(4, 3).x;
        for (int bad : new int[] {-1, 4, 8, Integer.MIN_VALUE, Integer.MAX_VALUE}) {
            CHECKS.badArgument("step(" + bad + ")", () -> x.step(bad));
        }
        x.close();
        CHECKS.badState("failed: step(0)", () -> x.step(0));
        CHECKS.badArgument("failed: step(4)", () -> x.step(4));
        MaskedSum ended = new Round(3, 2).playTo(4).x;
        CHECKS.badState("ended: step(0)", () -> ended.step(0));
        CHECKS.badArgument("ended: step(3)", () -> ended.step(3));
    }

    private static void words(String text, MaskedSum x, int k, int... want) {
        CHECKS.due(text + ": how many words", x.message(k, 3), want.length);
        for (int i = 0; i < want.length; i++) {
            CHECKS.due(text + ": word " + i, x.message(k, 4 + i), want[i]);
        }
    }

    private static void put(int[] words, int at, BigInteger number) {
        words[at] = Reference.low(number);
        words[at + 1] = Reference.high(number);
    }

    private static int[] keysOf(int u) {
        int[] words = new int[4];
        put(words, 0, Reference.publicNumber(Round.secret(u, 0)));
        put(words, 2, Reference.publicNumber(Round.secret(u, 1)));
        return words;
    }

    private static void publicNumbers() {
        MaskedSum x = new Round(8, 5).stepAll().x;
        for (int u = 0; u < 8; u++) {
            words("public numbers of phone " + u, x, u, keysOf(u));
        }
    }

    private static BigInteger agreed(int u, int v, int key) {
        return Reference.power(Reference.publicNumber(Round.secret(v, key)), Round.secret(u, key));
    }

    private static int[] sharesOf(int u, int t, int v) {
        int[] text = new int[4];
        put(text, 0, Reference.share(Round.secret(u, 2), Round.secret(u, 2), 1, u, t, v));
        put(text, 2, Reference.share(Round.secret(u, 0), Round.secret(u, 2), 0, u, t, v));
        return text;
    }

    private static int[] boxesOf(int u, int t, int names) {
        int[] words = new int[64];
        for (int v = 0; v < 8; v++) {
            if (v != u && (names >> v & 1) == 1) {
                int[] box = Reference.seal(agreed(u, v, 1), u, v, sharesOf(u, t, v));
                System.arraycopy(box, 0, words, 8 * v, 8);
            }
        }
        return words;
    }

    private static void boxes() {
        for (int t = 5; t <= 8; t++) {
            MaskedSum x = new Round(8, t).playTo(1).stepAll().x;
            for (int u = 0; u < 8; u++) {
                words("boxes of phone " + u + ", threshold " + t, x, u, boxesOf(u, t, 255));
            }
        }
        Round round = new Round(5, 3).stepAll().deliverOf(0b10110);
        round.x.close();
        round.deliverAll();
        CHECKS.due("not named: step(0)", round.x.step(0), false);
        round.x.step(2);
        words("boxes for those named", round.x, 0, boxesOf(2, 3, 0b10110));
    }

    private static int[] maskedOf(int u, int names) {
        int[] words = new int[4];
        int[] own = Reference.stream(Round.secret(u, 2), 0, u, 4);
        for (int i = 0; i < 4; i++) {
            words[i] = Round.inputWord(u, i) + own[i];
        }
        for (int v = 0; v < 8; v++) {
            if (v != u && (names >> v & 1) == 1) {
                int[] mask = Reference.stream(agreed(u, v, 0), 1, 0, 4);
                for (int i = 0; i < 4; i++) {
                    words[i] += v > u ? mask[i] : -mask[i];
                }
            }
        }
        return words;
    }

    private static void maskedWords() {
        MaskedSum x = new Round(8, 5).playTo(2).stepAll().x;
        for (int u = 0; u < 8; u++) {
            words("masked words of phone " + u, x, u, maskedOf(u, 255));
        }
        Round round = new Round(5, 3).playTo(1).stepAll().deliverOf(0b10110);
        round.x.close();
        round.deliverAll();
        round.x.step(2);
        words("masked words by those named", round.x, 0, maskedOf(2, 0b10110));
    }

    /** What phone u gives of the phones opened: seeds of those named, mask keys of others. */
    private static int[] givenBy(int u, int t, int opened, int named) {
        int[] words = new int[17];
        words[0] = opened;
        for (int v = 0; v < 8; v++) {
            if ((opened >> v & 1) == 1) {
                int from = (named >> v & 1) == 1 ? 0 : 2;
                System.arraycopy(sharesOf(v, t, u), from, words, 1 + 2 * v, 2);
            }
        }
        return words;
    }

    private static void shares() {
        Round round = new Round(6, 4).playTo(2).stepAll().deliverOf(0b101011);
        round.x.close();
        round.deliverAll().stepAll();
        for (int u = 0; u < 6; u++) {
            words("shares given by phone " + u, round.x, u, givenBy(u, 4, 63, 0b101011));
        }
        Round fewer = new Round(6, 4).playTo(1).stepAll().deliverOf(0b111101);
        fewer.x.close();
        fewer.deliverAll().stepAll().deliverOf(0b011101);
        fewer.x.close();
        fewer.deliverAll().stepAll();
        words("shares of those in stage 1", fewer.x, 4, givenBy(5, 4, 0b111101, 0b011101));
    }

    private static void sharesWithoutOneBox() {
        for (int word = 0; word < 8; word++) {
            Round round = new Round(4, 3).playTo(1).playStage();
            // The answer to phone 0: the box of phone 2 stands behind NAMES and two boxes.
            round.x.alter(0, 1 + 16 + word, 1 << 4 * word);
            round.deliverAll().playStage().deliverAll();
            round.x.step(0);
            words("box of phone 2 altered in word " + word, round.x, 0, givenBy(0, 3, 0b1011, 15));
        }
        Round own = new Round(4, 3).playTo(1).playStage();
        own.x.alter(0, 1, 77);
        own.deliverAll().playStage().deliverAll();
        own.x.step(0);
        words("its own shares it knows", own.x, 0, givenBy(0, 3, 15, 15));
    }

    /** All agree on 1, but a box has its sender's number in its nonce. */
    private static void boxInAnotherOnesPlace() {
        Round round = new Round(4, 3);
        for (int u = 0; u < 4; u++) {
            round.x.secret(u, 1, 0, 0);
        }
        round.playTo(1).playStage();
        for (int i = 0; i < 8; i++) {
            round.set(0, 1 + 16 + i, round.word(0, 1 + 8 + i));
        }
        round.deliverAll().playStage().deliverAll();
        round.x.step(0);
        words("box of phone 1 in the place of 2's", round.x, 0, givenBy(0, 3, 0b1011, 15));
    }

    /** Phone 0 is told another public number of phone 2's box key: neither can open the other one's box. */
    private static void boxByAnotherNumber() {
        Round round = new Round(4, 3).playStage();
        round.x.alter(0, 1 + 4 * 2 + 2, 1);
        round.deliverAll().playStage().deliverAll().playStage().deliverAll().stepAll();
        words("phone 0", round.x, 0, givenBy(0, 3, 0b1011, 15));
        words("phone 1", round.x, 1, givenBy(1, 3, 0b1111, 15));
        words("phone 2", round.x, 2, givenBy(2, 3, 0b1110, 15));
    }

    /** A phone goes by the names and numbers in the answers that it took, altered ones too. */
    private static void whatItWasToldCounts() {
        Round round = new Round(4, 3).playStage();
        round.x.alter(0, 0, 8);
        round.x.alter(0, 1 + 4 * 2 + 2, 1);
        round.deliverAll();
        round.x.step(0);
        int[] want = boxesOf(0, 3, 7);
        int[] told = keysOf(2);
        BigInteger key = Reference.power(Reference.number(told[2] ^ 1, told[3]), Round.secret(0, 1));
        System.arraycopy(Reference.seal(key, 0, 2, sharesOf(0, 3, 2)), 0, want, 16, 8);
        words("told of three phones and another number", round.x, 0, want);
        CHECKS.due("no box for the fourth", Arrays.stream(want, 24, 64).allMatch(i -> i == 0), true);
    }
}
