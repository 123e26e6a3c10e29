import java.math.BigInteger;

/** Promises 3 and 4. */
public final class SettingsTest {
    private static final Checks CHECKS = new Checks();

    public static void main(String[] args) {
        badArguments();
        secretsAreNumbers();
        whenSecretsMayBeSet();
        whenInputsMayBeSet();
        eachInputWordCounts();
        phonesOutsideTheRound();
        setAfterTheRound();
        lastSettingCounts();
        CHECKS.end();
    }

    private static void badArguments() {
        MaskedSum x = new Round(3, 2).x;
        x.step(0);
        for (int bad : new int[] {-1, 8, Integer.MIN_VALUE, Integer.MAX_VALUE}) {
            CHECKS.badArgument("secret(" + bad + ", 0, 1, 1)", () -> x.secret(bad, 0, 1, 1));
            CHECKS.badArgument("input(" + bad + ", 0, 1)", () -> x.input(bad, 0, 1));
        }
        for (int bad : new int[] {-1, 3, Integer.MIN_VALUE, Integer.MAX_VALUE}) {
            CHECKS.badArgument("secret(0, " + bad + ", 1, 1)", () -> x.secret(0, bad, 1, 1));
        }
        for (int bad : new int[] {-1, 4, Integer.MIN_VALUE, Integer.MAX_VALUE}) {
            CHECKS.badArgument("input(0, " + bad + ", 1)", () -> x.input(0, bad, 1));
        }
    }

    private static void secretsAreNumbers() {
        int[][] words = {{0, 0}, {1, 0}, {0, 1}, {-1, 0}, {-1, -1}, {-1, 0x1fffffff}, {-2, 0x1fffffff},
            {-2, -1}, {5, 0x20000000}, {5, 0xe0000000}, {0, 0x1fffffff}, {0x12345678, 0x9abcdef0}};
        for (int[] pair : words) {
            MaskedSum x = new MaskedSum();
            x.start(3, 2);
            x.secret(1, 0, pair[0], pair[1]);
            x.secret(1, 1, pair[1], pair[0]);
            x.step(1);
            String text = "public number of " + pair[0] + ", " + pair[1];
            BigInteger mask = Reference.publicNumber(Reference.number(pair[0], pair[1]));
            BigInteger box = Reference.publicNumber(Reference.number(pair[1], pair[0]));
            CHECKS.due(text + ", low", x.message(0, 4), Reference.low(mask));
            CHECKS.due(text + ", high", x.message(0, 5), Reference.high(mask));
            CHECKS.due(text + ", low, as a box key", x.message(0, 6), Reference.low(box));
            CHECKS.due(text + ", high, as a box key", x.message(0, 7), Reference.high(box));
        }
    }

    private static void whenSecretsMayBeSet() {
        Round round = new Round(3, 2);
        MaskedSum x = round.x;
        x.step(0);
        for (int which = 0; which < 3; which++) {
            int w = which;
            CHECKS.badState("secret of one that has sent", () -> x.secret(0, w, 1, 1));
            CHECKS.fine("secret of one that has not sent", () -> x.secret(1, w, 1, 1));
            CHECKS.fine("secret of one outside the round", () -> x.secret(3, w, 1, 1));
        }
        CHECKS.badArgument("secret(0, 3, 1, 1), bad before its time", () -> x.secret(0, 3, 1, 1));
        x.start(4, 3);
        CHECKS.fine("secret in a new round", () -> x.secret(0, 0, 1, 1));
        x.step(0);
        x.close();
        CHECKS.fine("secret when the round has failed", () -> x.secret(0, 0, 1, 1));
        Round ended = new Round(3, 2).playTo(4);
        CHECKS.due("the round has ended", ended.x.count(1), 4);
        CHECKS.fine("secret when the round has ended", () -> ended.x.secret(0, 0, 1, 1));
    }

    private static void whenInputsMayBeSet() {
        Round round = new Round(3, 2).playTo(1).stepAll();
        MaskedSum x = round.x;
        CHECKS.fine("input of one that has sent two messages", () -> x.input(0, 0, 50));
        round.deliverAll().x.close();
        round.deliverAll();
        CHECKS.fine("input before the masked words", () -> x.input(0, 0, 51));
        x.step(0);
        for (int k = 0; k < 4; k++) {
            int word = k;
            CHECKS.badState("input behind the masked words", () -> x.input(0, word, 52));
        }
        CHECKS.badArgument("input(0, 4, 1), bad before its time", () -> x.input(0, 4, 1));
        CHECKS.fine("input of another one", () -> x.input(1, 0, 60));
        CHECKS.fine("input of one outside the round", () -> x.input(7, 0, 60));
        round.playStage().deliverAll().playStage();
        CHECKS.due("total(0)", x.total(0), 51 + 60 + Round.inputWord(2, 0));
        CHECKS.fine("input when the round has ended", () -> x.input(0, 0, 53));
    }

    private static void eachInputWordCounts() {
        for (int u = 0; u < 3; u++) {
            for (int k = 0; k < 4; k++) {
                MaskedSum x = new MaskedSum();
                x.input(u, k, -5);
                x.start(3, 2);
                Round.play(x, 3, 4);
                for (int i = 0; i < 4; i++) {
                    CHECKS.due("input(" + u + ", " + k + ", -5), total(" + i + ")", x.total(i), i == k ? -5 : 0);
                }
            }
        }
    }

    private static void shows(String text, MaskedSum x, int k, int low, int high) {
        BigInteger number = Reference.publicNumber(Reference.number(low, high));
        CHECKS.due(text + ", low", x.message(k, 4), Reference.low(number));
        CHECKS.due(text + ", high", x.message(k, 5), Reference.high(number));
    }

    /** What is set of phones 3 to 7 while a round of three is open counts in the next one. */
    private static void phonesOutsideTheRound() {
        Round round = new Round(3, 2).playTo(2).stepAll();
        for (int u = 3; u < 8; u++) {
            round.x.secret(u, 0, 40 + u, -u);
            round.x.input(u, 1, 100 * u);
        }
        round.x.start(8, 5);
        for (int u = 0; u < 8; u++) {
            round.x.step(u);
        }
        for (int u = 3; u < 8; u++) {
            shows("phone " + u, round.x, u, 40 + u, -u);
        }
        round.deliverAll().x.close();
        round.deliverAll();
        for (int stage = 1; stage < 4; stage++) {
            for (int u = 0; u < 8; u++) {
                round.x.step(u);
            }
            round.deliverAll().x.close();
            round.deliverAll();
        }
        CHECKS.due("total(1)", round.x.total(1), Round.sum(7, 1) + 100 * (3 + 4 + 5 + 6 + 7));
    }

    /** A round that has failed or ended is not open: its phones may be set anew, which counts in the next. */
    private static void setAfterTheRound() {
        Round ended = new Round(3, 2).playTo(4);
        Round failed = new Round(3, 2).playTo(2).stepAll();
        failed.x.close();
        for (Round round : new Round[] {ended, failed}) {
            for (int u = 0; u < 3; u++) {
                round.x.secret(u, 0, 9 + u, 8);
                round.x.input(u, 2, 7 - u);
            }
            round.x.start(3, 2);
            round.stepAll();
            for (int u = 0; u < 3; u++) {
                shows("phone " + u, round.x, u, 9 + u, 8);
            }
            round.deliverAll().x.close();
            round.deliverAll().playStage().deliverAll().playStage().deliverAll().playStage();
            CHECKS.due("total(2)", round.x.total(2), 7 + 6 + 5);
        }
    }

    private static void lastSettingCounts() {
        Round round = new Round(3, 2);
        round.x.secret(1, 0, 5, 5);
        round.x.secret(1, 0, -1, -1);
        round.x.secret(1, 0, 6, 7);
        round.x.input(1, 3, 5);
        round.x.input(1, 3, 0);
        round.stepAll();
        shows("set again", round.x, 1, 6, 7);
        round.deliverAll().x.close();
        round.deliverAll().playStage().deliverAll().playStage().deliverAll().playStage();
        CHECKS.due("total(3)", round.x.total(3), Round.inputWord(0, 3) + Round.inputWord(2, 3));
    }
}
