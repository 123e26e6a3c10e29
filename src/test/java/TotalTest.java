import java.math.BigInteger;
import java.util.ArrayList;
import java.util.List;

/** Promise 11, and what a round comes to when phones fall out. */
public final class TotalTest {
    private static final Checks CHECKS = new Checks();

    public static void main(String[] args) {
        arguments();
        everySize();
        thoseWhoseWordsCame();
        lowestHoldersCount();
        badSharesSpoilIt();
        aShareSaidToBeHadIsTaken();
        namesAtTheServerCount();
        publicNumbersAsTheyCameCount();
        nothingIsLeftIfAllWordsCame();
        CHECKS.end();
    }

    private static void arguments() {
        Round round = new Round(3, 2);
        MaskedSum x = round.x;
        for (int stage = 0; stage < 4; stage++) {
            CHECKS.badState("stage " + stage + ": total(0)", () -> x.total(0));
            CHECKS.badArgument("stage " + stage + ": total(4)", () -> x.total(4));
            round.playStage().deliverAll();
        }
        for (int bad : new int[] {-1, 4, Integer.MIN_VALUE, Integer.MAX_VALUE}) {
            CHECKS.badArgument("total(" + bad + ")", () -> x.total(bad));
        }
        sums("ended", x, 7);
        CHECKS.badArgument("start(2, 2)", () -> x.start(2, 2));
        sums("behind a bad start", x, 7);
        x.start(3, 2);
        CHECKS.badState("started again: total(0)", () -> x.total(0));
        x.close();
        CHECKS.badState("failed: total(0)", () -> x.total(0));
    }

    private static void sums(String text, MaskedSum x, int names) {
        for (int k = 0; k < 4; k++) {
            CHECKS.due(text + ": total(" + k + ")", x.total(k), Round.sum(names, k));
        }
    }

    private static void everySize() {
        for (int n = 3; n <= 8; n++) {
            for (int t = n / 2 + 1; t <= n; t++) {
                Round round = new Round(n, t).playTo(4);
                sums(n + " phones, threshold " + t, round.x, round.everyone());
            }
        }
    }

    /** Others fall out at each stage; the sum is that of the names of stage 2. */
    private static void thoseWhoseWordsCame() {
        int[][] names = {
            {0b11111111, 0b11111111, 0b11101111, 0b11111111},
            {0b11111111, 0b11111111, 0b01111110, 0b10111111},
            {0b11111101, 0b11111101, 0b11110101, 0b11111001},
            {0b11111110, 0b01111110, 0b01011110, 0b01111100},
            {0b11111111, 0b01111111, 0b00011111, 0b01110011},
            {0b11111111, 0b11111111, 0b11111000, 0b00011111},
            {0b11111111, 0b11111111, 0b00011111, 0b11111000}};
        for (int[] heard : names) {
            Round round = new Round(8, 5);
            for (int stage = 0; stage < 4; stage++) {
                round.stepAll().deliverOf(heard[stage]);
                CHECKS.due("close()", round.x.close(), stage + 1);
                round.deliverAll();
            }
            sums("names " + Integer.toBinaryString(heard[2]), round.x, heard[2]);
        }
    }

    /** With more shares than needed those of the lowest phones that had one are joined: others may be wrong. */
    private static void lowestHoldersCount() {
        Round round = new Round(5, 3).playTo(3).stepAll();
        // Shares of phones 3 and 4 are wrong, but 0, 1 and 2 are the lowest.
        for (int v = 0; v < 5; v++) {
            round.x.alter(3, 1 + 2 * v, 7);
            round.x.alter(4, 2 + 2 * v, 7);
        }
        round.deliverAll();
        CHECKS.due("close()", round.x.close(), 4);
        sums("wrong shares that aren't used", round.x, 31);
        // Phone 1 says it hadn't the share of phone 0, which is wrong then: 0, 2 and 3 are the lowest that had.
        Round other = new Round(5, 3).playTo(3).stepAll();
        other.x.alter(1, 0, 1);
        other.x.alter(1, 1, 7);
        other.x.alter(4, 1, 7);
        other.deliverAll();
        CHECKS.due("close()", other.x.close(), 4);
        sums("a share not had", other.x, 31);
    }

    private static void badSharesSpoilIt() {
        Round round = new Round(5, 3).playTo(3).stepAll();
        round.x.alter(2, 1, 7);
        round.deliverAll();
        CHECKS.due("close()", round.x.close(), 4);
        boolean same = true;
        for (int k = 0; k < 4; k++) {
            same &= round.x.total(k) == Round.sum(31, k);
        }
        CHECKS.due("a wrong share that is used leaves the sum", same, false);
    }

    private static BigInteger seedShare(int u, int t, int v) {
        return Reference.share(Round.secret(u, 2), Round.secret(u, 2), 1, u, t, v);
    }

    private static void totals(String text, MaskedSum x, int names, int[] more) {
        for (int k = 0; k < 4; k++) {
            CHECKS.due(text + ": total(" + k + ")", x.total(k), Round.sum(names, k) + more[k]);
        }
    }

    /** Phone 0 can't open the box of phone 2, so its share is 0; if it is said to have had it, 0 is joined. */
    private static void aShareSaidToBeHadIsTaken() {
        Round round = new Round(4, 3).playTo(1).playStage();
        round.x.alter(0, 1 + 16, 1);
        round.deliverAll().playStage().deliverAll().stepAll();
        round.x.alter(0, 0, 0b0100);
        CHECKS.due("close()", round.deliverAll().x.close(), 4);
        List<BigInteger> shares = new ArrayList<>(List.of(BigInteger.ZERO, seedShare(2, 3, 1), seedShare(2, 3, 2)));
        int[] off = Reference.stream(Reference.join(List.of(0, 1, 2), shares), 0, 2, 4);
        int[] more = Reference.stream(Round.secret(2, 2), 0, 2, 4);
        for (int k = 0; k < 4; k++) {
            more[k] -= off[k];
        }
        totals("a share of 0", round.x, 15, more);
    }

    /** Phone 0 is told that phone 3's words didn't come, and gives of its mask key: the server takes it for a seed's. */
    private static void namesAtTheServerCount() {
        Round round = new Round(4, 3).playTo(2).playStage();
        round.x.alter(0, 0, 0b1000);
        round.deliverAll().stepAll();
        CHECKS.due("phone(0, 3)", round.x.phone(0, 3), 0b1000);
        CHECKS.due("close()", round.deliverAll().x.close(), 4);
        BigInteger wrong = Reference.share(Round.secret(3, 0), Round.secret(3, 2), 0, 3, 3, 0);
        List<BigInteger> shares = new ArrayList<>(List.of(wrong, seedShare(3, 3, 1), seedShare(3, 3, 2)));
        int[] off = Reference.stream(Reference.join(List.of(0, 1, 2), shares), 0, 3, 4);
        int[] more = Reference.stream(Round.secret(3, 2), 0, 3, 4);
        for (int k = 0; k < 4; k++) {
            more[k] -= off[k];
        }
        totals("another secret's share", round.x, 15, more);
    }

    private static int[] pairwise(BigInteger shown, BigInteger maskKey) {
        return Reference.stream(Reference.power(shown, maskKey), 1, 0, 4);
    }

    /** Phone 0's public mask number is altered on its way to the server; phone 2 falls out behind its boxes. */
    private static void publicNumbersAsTheyCameCount() {
        Round round = new Round(3, 2).stepAll();
        round.x.alter(0, 0, 6);
        round.deliverAll().x.close();
        round.deliverAll().playStage().deliverAll().stepAll().deliverOf(0b011);
        round.x.close();
        CHECKS.due("close()", round.deliverAll().playStage().x.count(1), 4);
        BigInteger own = Reference.publicNumber(Round.secret(0, 0));
        BigInteger came = Reference.number(Reference.low(own) ^ 6, Reference.high(own));
        int[] ofZero = pairwise(Reference.publicNumber(Round.secret(1, 0)), Round.secret(0, 0));
        int[] ofOne = pairwise(came, Round.secret(1, 0));
        int[] withTwo = pairwise(own, Round.secret(2, 0));
        int[] atServer = pairwise(came, Round.secret(2, 0));
        int[] more = new int[4];
        for (int k = 0; k < 4; k++) {
            more[k] = ofZero[k] - ofOne[k] + withTwo[k] - atServer[k];
        }
        totals("an altered public number", round.x, 0b011, more);
    }

    /** With all words there the mask keys play no part, even if public numbers came altered to the server alone. */
    private static void nothingIsLeftIfAllWordsCame() {
        Round round = new Round(3, 2).stepAll();
        int[] low = new int[3];
        for (int u = 0; u < 3; u++) {
            low[u] = round.word(u, 0);
            round.x.alter(u, 0, 5);
        }
        round.deliverAll().x.close();
        for (int k = 0; k < 3; k++) {
            for (int u = 0; u < 3; u++) {
                round.set(k, 1 + 4 * u, low[u]);
            }
        }
        round.deliverAll();
        for (int stage = 1; stage < 4; stage++) {
            round.playStage().deliverAll();
        }
        sums("altered for the server alone", round.x, 7);
    }
}
