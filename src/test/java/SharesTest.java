import java.math.BigInteger;
import java.util.ArrayList;
import java.util.List;

/** "Terms": shares, what is joined from them, and masks; sums of words modulo 2 to the power of 32. */
public final class SharesTest {
    private static final Checks CHECKS = new Checks();

    public static void main(String[] args) {
        sharesOfEverySizeAndThreshold();
        sharesOfSecretsAtTheEdges();
        anyPhonesAreEnough();
        fewerThanTheThresholdAreNot();
        mostThresholdNeedsAll();
        joinedByWrongSeedShare();
        joinedByWrongMaskKeyShare();
        onlyFourWordsOfAMask();
        inputsWrapInMaskedWords();
        sumsWrapInTheTotal();
        CHECKS.end();
    }

    private static int[] textFor(BigInteger[] secrets, int u, int t, int v) {
        BigInteger seed = Reference.share(secrets[2], secrets[2], 1, u, t, v);
        BigInteger key = Reference.share(secrets[0], secrets[2], 0, u, t, v);
        return new int[] {Reference.low(seed), Reference.high(seed), Reference.low(key), Reference.high(key)};
    }

    private static BigInteger[] secretsOf(int u) {
        return new BigInteger[] {Round.secret(u, 0), Round.secret(u, 1), Round.secret(u, 2)};
    }

    /** Opens phone u's box for phone v, the k-th message, and looks at the shares in it. */
    private static void opened(String text, Round round, int k, BigInteger[] secrets, int u, int v) {
        int[] box = new int[8];
        for (int i = 0; i < 8; i++) {
            box[i] = round.word(k, 8 * v + i);
        }
        BigInteger agreed = Reference.power(Reference.publicNumber(secrets[1]), Round.secret(v, 1));
        int[] shares = Reference.open(agreed, u, v, box);
        CHECKS.due(text + ": opened", shares != null, true);
        int[] want = textFor(secrets, u, round.t, v);
        for (int i = 0; shares != null && i < 4; i++) {
            CHECKS.due(text + ": word " + i, shares[i], want[i]);
        }
    }

    private static void sharesOfEverySizeAndThreshold() {
        for (int n = 3; n <= 8; n++) {
            for (int t = n / 2 + 1; t <= n; t++) {
                Round round = new Round(n, t).playTo(1).stepAll();
                for (int u = 0; u < n; u++) {
                    for (int v = 0; v < n; v++) {
                        if (v != u) {
                            opened(n + ", " + t + ": shares of " + u + " for " + v, round, u, secretsOf(u), u, v);
                        }
                    }
                }
            }
        }
    }

    /** Words of 0, 1, P - 1, P and all bits, as mask key and seed of phone 7. */
    private static void sharesOfSecretsAtTheEdges() {
        int[][] words = {{0, 0}, {1, 0}, {-2, 0x1fffffff}, {-1, 0x1fffffff}, {-1, -1}, {0, 0x1fffffff}};
        for (int[] pair : words) {
            Round round = new Round(8, 5);
            round.x.secret(7, 0, pair[0], pair[1]);
            round.x.secret(7, 2, pair[0], pair[1]);
            round.playTo(1).stepAll();
            BigInteger number = Reference.number(pair[0], pair[1]);
            BigInteger[] secrets = {number, Round.secret(7, 1), number};
            for (int v = 0; v < 7; v++) {
                opened("secrets " + pair[0] + ", " + pair[1], round, 7, secrets, 7, v);
            }
            round.deliverAll().x.close();
            round.deliverAll().stepAll().deliverOf(0b01111111);
            round.x.close();
            round.deliverAll().playStage();
            total("secrets " + pair[0] + ", " + pair[1], round, 0b01111111);
        }
    }

    private static void total(String text, Round round, int names) {
        for (int k = 0; k < 4; k++) {
            CHECKS.due(text + ": total(" + k + ")", round.x.total(k), Round.sum(names, k));
        }
    }

    /** Each set of t phones or more joins the same. Phones 2 and 6 fell out, so that mask keys are joined too. */
    private static void anyPhonesAreEnough() {
        for (int names = 0; names < 256; names++) {
            if (Integer.bitCount(names) == 5 || Integer.bitCount(names) == 6) {
                Round round = new Round(8, 5).playTo(2).stepAll().deliverOf(0b10111011);
                round.x.close();
                round.deliverAll().stepAll().deliverOf(names);
                CHECKS.due("shares of " + names + ": close()", round.x.close(), 4);
                total("shares of " + names, round, 0b10111011);
            }
        }
    }

    private static void fewerThanTheThresholdAreNot() {
        for (int names = 0; names < 32; names++) {
            Round round = new Round(5, 3).playTo(3).stepAll().deliverOf(names);
            boolean enough = Integer.bitCount(names) >= 3;
            CHECKS.due("shares of " + names + ": close()", round.x.close(), enough ? 4 : 5);
            CHECKS.due("then the reason", round.x.count(2), enough ? 0 : 4);
        }
    }

    private static void mostThresholdNeedsAll() {
        for (int n = 3; n <= 8; n++) {
            for (int gone = 0; gone < n; gone++) {
                Round round = new Round(n, n).playTo(3).stepAll();
                round.x.lose(gone);
                CHECKS.due("without " + gone + " of " + n + ": close()", round.deliverAll().x.close(), 5);
                CHECKS.due("then the reason", round.x.count(2), 4);
            }
        }
    }

    /** What the server joins of phone u if the lowest three phones' shares are these. */
    private static BigInteger joined(int u, int w, int[] change) {
        List<Integer> phones = new ArrayList<>();
        List<BigInteger> shares = new ArrayList<>();
        for (int v = 0; v < 3; v++) {
            int[] text = textFor(secretsOf(u), u, 3, v);
            int at = w == 1 ? 0 : 2;
            phones.add(v);
            shares.add(Reference.number(text[at] ^ change[2 * v], text[at + 1] ^ change[2 * v + 1]));
        }
        return Reference.join(phones, shares);
    }

    private static final int[][] CHANGES = {{1, 0, 0, 0, 0, 0}, {0, 0, 0, 0x10000000, 0, 0}, {0, 0, 0, 0, -1, 0},
        {5, 6, 7, 8, 9, 10}, {0, 0x20000000, 0, 0, 0, 0}};

    private static void changeShares(Round round, int u, int[] change) {
        for (int v = 0; v < 3; v++) {
            round.x.alter(v, 1 + 2 * u, change[2 * v]);
            round.x.alter(v, 2 + 2 * u, change[2 * v + 1]);
        }
    }

    /** The constant of the only polynomial through what came: a wrong seed takes a wrong mask off. */
    private static void joinedByWrongSeedShare() {
        for (int[] change : CHANGES) {
            Round round = new Round(5, 3).playTo(3).stepAll();
            changeShares(round, 4, change);
            CHECKS.due("close()", round.deliverAll().x.close(), 4);
            int[] mask = Reference.stream(Round.secret(4, 2), 0, 4, 4);
            int[] off = Reference.stream(joined(4, 1, change), 0, 4, 4);
            for (int k = 0; k < 4; k++) {
                CHECKS.due("a wrong seed: total(" + k + ")", round.x.total(k), Round.sum(31, k) + mask[k] - off[k]);
            }
        }
    }

    /** A wrong mask key leaves wrong pairwise masks, with those alone whose words came. */
    private static void joinedByWrongMaskKeyShare() {
        for (int[] change : CHANGES) {
            wrongMaskKey(0b11011, change);
            wrongMaskKey(0b11010, change);
            wrongMaskKey(0b10011, change);
        }
    }

    /** The words of these came, among whom phone 2 is not; of its mask key wrong shares are given. */
    private static void wrongMaskKey(int names, int[] change) {
        Round round = new Round(5, 3).playTo(2).stepAll().deliverOf(names);
        round.x.close();
        round.deliverAll().stepAll();
        changeShares(round, 2, change);
        CHECKS.due("close()", round.deliverAll().x.close(), 4);
        int[] want = new int[4];
        for (int v = 0; v < 5; v++) {
            BigInteger shown = Reference.publicNumber(Round.secret(v, 0));
            int[] mask = Reference.stream(Reference.power(shown, Round.secret(2, 0)), 1, 0, 4);
            int[] off = Reference.stream(Reference.power(shown, joined(2, 0, change)), 1, 0, 4);
            int came = names >> v & 1;
            for (int k = 0; k < 4; k++) {
                want[k] += came * (v < 2 ? mask[k] - off[k] : off[k] - mask[k]);
            }
        }
        for (int k = 0; k < 4; k++) {
            CHECKS.due("a wrong mask key: total(" + k + ")", round.x.total(k), Round.sum(names, k) + want[k]);
        }
    }

    private static void onlyFourWordsOfAMask() {
        MaskedSum x = new MaskedSum();
        x.secret(0, 2, 77, 1);
        x.start(3, 2);
        Round.play(x, 3, 2);
        x.step(0);
        // The mask keys are 0, so that all agree on 1, and phone 0 is the lowest.
        for (int k = 0; k < 4; k++) {
            int pairwise = x.stream(1, 0, 1, 0, k);
            CHECKS.due("masked word " + k, x.message(0, 4 + k), x.stream(77, 1, 0, 0, k) + 2 * pairwise);
        }
        CHECKS.badArgument("no fifth word", () -> x.message(0, 8));
    }

    private static void inputsWrapInMaskedWords() {
        for (int input : new int[] {0, 1, -1, Integer.MAX_VALUE, Integer.MIN_VALUE}) {
            MaskedSum x = new MaskedSum();
            for (int k = 0; k < 4; k++) {
                x.input(1, k, input);
            }
            x.start(3, 2);
            Round.play(x, 3, 2);
            x.step(1);
            // Phone 1 adds what it shares with 2 and takes off the same with 0.
            for (int k = 0; k < 4; k++) {
                CHECKS.due("input " + input + ", word " + k, x.message(0, 4 + k), input + x.stream(0, 0, 0, 1, k));
            }
        }
    }

    private static void sumsWrapInTheTotal() {
        int[][] inputs = {{-1, 1, 0}, {Integer.MAX_VALUE, 1, 0}, {Integer.MIN_VALUE, Integer.MIN_VALUE, 0},
            {Integer.MIN_VALUE, -1, 0}, {-1, -1, -1}, {Integer.MAX_VALUE, Integer.MAX_VALUE, Integer.MAX_VALUE}};
        int[] want = {0, Integer.MIN_VALUE, 0, Integer.MAX_VALUE, -3, Integer.MAX_VALUE - 2};
        for (int i = 0; i < inputs.length; i++) {
            for (int k = 0; k < 4; k++) {
                MaskedSum x = new MaskedSum();
                for (int u = 0; u < 3; u++) {
                    x.input(u, k, inputs[i][u]);
                }
                x.start(3, 3);
                Round.play(x, 3, 4);
                for (int j = 0; j < 4; j++) {
                    CHECKS.due("inputs " + i + ", total(" + j + ")", x.total(j), j == k ? want[i] : 0);
                }
            }
        }
    }
}
