import java.math.BigInteger;

/** "Terms": numbers, the words that make them, powers, and what phones agree on. */
public final class NumbersTest {
    private static final Checks CHECKS = new Checks();
    /** The highest word of a number below P, its low word being -1 or less. */
    private static final int TOP = 0x1fffffff;
    private static final int[] HIGHEST_BITS = {0x20000000, 0x40000000, 0x80000000, 0x60000000, 0xa0000000, 0xe0000000};

    public static void main(String[] args) {
        lowWordComesFirst();
        threeHighestBitsDoNotCount();
        wholeWordsAreModuloP();
        wordsOfANumberAreBelowP();
        powersOfTheBase();
        powersWrapModuloP();
        bothAgree();
        agreedByNumbersAtTheEdges();
        secretZeroAgreesOnOne();
        coefficientsAreNumbers();
        joinedSharesAreNumbers();
        publicNumbersAtTheServerAreNumbers();
        CHECKS.end();
    }

    /** Whether two pairs of words are the same number, as the key of a stream. */
    private static boolean sameKey(int low, int high, int otherLow, int otherHigh) {
        MaskedSum x = new MaskedSum();
        boolean same = true;
        for (int k = 0; k < 4; k++) {
            same &= x.stream(low, high, 3, 4, k) == x.stream(otherLow, otherHigh, 3, 4, k);
        }
        return same;
    }

    /** The public number of a secret of these words. */
    private static BigInteger publicOf(int low, int high) {
        MaskedSum x = new MaskedSum();
        x.secret(0, 0, low, high);
        x.secret(0, 1, low, high);
        x.start(3, 2);
        x.step(0);
        CHECKS.due("mask key and box key, low", x.message(0, 4), x.message(0, 6));
        CHECKS.due("mask key and box key, high", x.message(0, 5), x.message(0, 7));
        return BigInteger.valueOf((long) x.message(0, 5) << 32 | x.message(0, 4) & 0xffffffffL);
    }

    private static void isPublic(String text, int low, int high, BigInteger want) {
        CHECKS.same("public number of " + text, publicOf(low, high).toString(), want.toString());
    }

    private static void lowWordComesFirst() {
        CHECKS.due("1, 0 and 0, 1", sameKey(1, 0, 0, 1), false);
        isPublic("1, 0", 1, 0, BigInteger.valueOf(37));
        isPublic("0, 1", 0, 1, Reference.publicNumber(BigInteger.ONE.shiftLeft(32)));
        isPublic("-1, 0", -1, 0, Reference.publicNumber(BigInteger.valueOf(0xffffffffL)));
    }

    private static void threeHighestBitsDoNotCount() {
        for (int bits : HIGHEST_BITS) {
            CHECKS.due("5, 6 with bits " + bits, sameKey(5, 6 | bits, 5, 6), true);
            CHECKS.due("0, 0 with bits " + bits, sameKey(0, bits, 0, 0), true);
            isPublic("5, 6 with bits " + bits, 5, 6 | bits, Reference.publicNumber(Reference.number(5, 6)));
        }
        CHECKS.due("the fourth highest bit counts", sameKey(5, 0x10000006, 5, 6), false);
    }

    private static void wholeWordsAreModuloP() {
        CHECKS.due("P is 0", sameKey(-1, TOP, 0, 0), true);
        CHECKS.due("all bits are P, 0", sameKey(-1, -1, 0, 0), true);
        CHECKS.due("P - 1 isn't 0", sameKey(-2, TOP, 0, 0), false);
        CHECKS.due("P - 1 isn't P - 2", sameKey(-2, TOP, -3, TOP), false);
        int[] want = Reference.stream(Reference.P.subtract(BigInteger.ONE), 3, 4, 4);
        MaskedSum x = new MaskedSum();
        for (int k = 0; k < 4; k++) {
            CHECKS.due("stream of P - 1, word " + k, x.stream(-2, TOP, 3, 4, k), want[k]);
        }
        isPublic("P, which is 0", -1, TOP, BigInteger.ONE);
        isPublic("all bits, which are 0", -1, -1, BigInteger.ONE);
    }

    /** What is sent is the number itself, 0 .. P - 1. */
    private static void wordsOfANumberAreBelowP() {
        for (int i = 0; i < 50; i++) {
            BigInteger shown = publicOf(i * 0x9e3779b9, i * 0x7feb352d);
            CHECKS.due("a public number is 1 .. P - 1", shown.signum() > 0 && shown.compareTo(Reference.P) < 0, true);
        }
    }

    private static void powersOfTheBase() {
        isPublic("0", 0, 0, BigInteger.ONE);
        isPublic("1", 1, 0, BigInteger.valueOf(37));
        isPublic("2", 2, 0, BigInteger.valueOf(37 * 37));
        // 37^11 is the highest power of 37 below P.
        isPublic("11", 11, 0, BigInteger.valueOf(37).pow(11));
    }

    private static void powersWrapModuloP() {
        isPublic("12", 12, 0, BigInteger.valueOf(37).pow(12).mod(Reference.P));
        isPublic("P - 1", -2, TOP, BigInteger.ONE);
        isPublic("P - 2", -3, TOP, BigInteger.valueOf(37).modInverse(Reference.P));
        isPublic("half of P - 1, above and below", -1, 0x0fffffff,
                Reference.publicNumber(Reference.P.shiftRight(1)));
    }

    private static int[] boxFor(int u, int v, BigInteger agreed, int t) {
        int[] text = new int[4];
        BigInteger seed = Reference.share(Round.secret(u, 2), Round.secret(u, 2), 1, u, t, v);
        BigInteger key = Reference.share(Round.secret(u, 0), Round.secret(u, 2), 0, u, t, v);
        text[0] = Reference.low(seed);
        text[1] = Reference.high(seed);
        text[2] = Reference.low(key);
        text[3] = Reference.high(key);
        return Reference.seal(agreed, u, v, text);
    }

    private static void box(String text, Round round, int k, int v, int[] want) {
        for (int i = 0; i < 8; i++) {
            CHECKS.due(text + ", word " + i, round.word(k, 8 * v + i), want[i]);
        }
    }

    /** Either's public number to the power of the other one's secret. */
    private static void bothAgree() {
        Round round = new Round(3, 2).playTo(1).stepAll();
        BigInteger byOne = Reference.power(Reference.publicNumber(Round.secret(2, 1)), Round.secret(0, 1));
        BigInteger byOther = Reference.power(Reference.publicNumber(Round.secret(0, 1)), Round.secret(2, 1));
        box("box of 0 for 2", round, 0, 2, boxFor(0, 2, byOther, 2));
        box("box of 2 for 0", round, 2, 0, boxFor(2, 0, byOne, 2));
    }

    /** A phone is told a public number of these words, instead of phone 2's own. */
    private static void agreedBy(String text, int low, int high, BigInteger number) {
        Round round = new Round(3, 2).playStage();
        int at = 1 + 4 * 2 + 2;
        round.x.alter(0, at, round.word(0, at) ^ low);
        round.x.alter(0, at + 1, round.word(0, at + 1) ^ high);
        CHECKS.due(text + ": it is taken", round.x.deliver(0), true);
        round.x.lose(0);
        round.x.lose(0);
        round.x.step(0);
        box(text, round, 0, 2, boxFor(0, 2, Reference.power(number, Round.secret(0, 1)), 2));
    }

    private static void agreedByNumbersAtTheEdges() {
        agreedBy("public number 0", 0, 0, BigInteger.ZERO);
        agreedBy("public number 1", 1, 0, BigInteger.ONE);
        agreedBy("public number P, 0", -1, TOP, BigInteger.ZERO);
        agreedBy("public number P - 1", -2, TOP, Reference.P.subtract(BigInteger.ONE));
        agreedBy("public number 7 with the highest bits", 7, 0xe0000000, BigInteger.valueOf(7));
        agreedBy("public number of all bits, 0", -1, -1, BigInteger.ZERO);
    }

    private static void secretZeroAgreesOnOne() {
        for (int number = 0; number < 3; number++) {
            Round round = new Round(3, 2);
            round.x.secret(0, 1, 0, 0);
            round.playStage();
            int at = 1 + 4 * 2 + 2;
            round.x.alter(0, at, round.word(0, at) ^ number);
            round.x.alter(0, at + 1, round.word(0, at + 1));
            round.deliverAll();
            round.x.step(0);
            box("any number to the power of 0", round, 0, 2, boxFor(0, 2, BigInteger.ONE, 2));
        }
    }

    /** Pairs of a stream's words, some of them with the highest three bits, are coefficients as numbers. */
    private static void coefficientsAreNumbers() {
        boolean highBits = false;
        for (int u = 0; u < 8; u++) {
            int[] words = Reference.stream(Round.secret(u, 2), 3, u, 14);
            for (int i = 1; i < 14; i += 2) {
                highBits |= words[i] >>> 29 != 0;
            }
        }
        CHECKS.due("there are such words", highBits, true);
        Round round = new Round(8, 8).playTo(1).stepAll();
        for (int u = 0; u < 8; u++) {
            int v = 7 - u;
            BigInteger agreed = Reference.power(Reference.publicNumber(Round.secret(v, 1)), Round.secret(u, 1));
            box("box of " + u + " for " + v, round, u, v, boxFor(u, v, agreed, 8));
        }
    }

    /** The highest three bits of a share's words don't count at the server either. */
    private static void joinedSharesAreNumbers() {
        for (int bits : HIGHEST_BITS) {
            Round round = new Round(4, 3).playTo(2).stepAll().deliverOf(0b1011);
            round.x.close();
            round.deliverAll().stepAll();
            for (int k = 0; k < 4; k++) {
                for (int v = 0; v < 4; v++) {
                    round.x.alter(k, 2 + 2 * v, bits);
                }
            }
            round.deliverAll();
            CHECKS.due("close()", round.x.close(), 4);
            for (int k = 0; k < 4; k++) {
                CHECKS.due("shares with bits " + bits + ": total(" + k + ")", round.x.total(k), Round.sum(0b1011, k));
            }
        }
    }

    private static void publicNumbersAtTheServerAreNumbers() {
        for (int bits : HIGHEST_BITS) {
            Round round = new Round(4, 3).stepAll();
            for (int k = 0; k < 4; k++) {
                round.x.alter(k, 1, bits);
                round.x.alter(k, 3, bits);
            }
            round.deliverAll().x.close();
            round.deliverAll().playStage().deliverAll().stepAll().deliverOf(0b1101);
            round.x.close();
            round.deliverAll().playStage();
            for (int k = 0; k < 4; k++) {
                String text = "public numbers with bits " + bits + ": total(" + k + ")";
                CHECKS.due(text, round.x.total(k), Round.sum(0b1101, k));
            }
        }
    }
}
