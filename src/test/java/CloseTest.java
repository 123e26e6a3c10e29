/** Promise 6: what closing a stage answers, sends and leaves. */
public final class CloseTest {
    private static final Checks CHECKS = new Checks();

    public static void main(String[] args) {
        noRoundIsOpen();
        stagesInTurn();
        tooFewHeard();
        answersToPublicNumbers();
        answersToBoxes();
        answersToMaskedWords();
        everySetHeard();
        answersGoToTheLowestFirst();
        messagesStayOnTheirWay();
        tooFewShares();
        tooFewSharesOfASeed();
        tooFewSharesOfAMaskKey();
        tooFewPhonesBeforeTooFewShares();
        sharesOfOthersAreNotNeeded();
        CHECKS.end();
    }

    private static void noRoundIsOpen() {
        CHECKS.badState("new: close()", () -> new MaskedSum().close());
        MaskedSum ended = new Round(3, 2).playTo(4).x;
        CHECKS.badState("ended: close()", () -> ended.close());
        MaskedSum failed = new Round(3, 2).x;
        CHECKS.due("nobody heard: close()", failed.close(), 5);
        CHECKS.badState("failed: close()", () -> failed.close());
    }

    private static void stagesInTurn() {
        Round round = new Round(8, 8);
        for (int stage = 0; stage < 4; stage++) {
            round.stepAll().deliverAll();
            CHECKS.due("heard all: count(6)", round.x.count(6), 255);
            CHECKS.due("stage " + stage + ": close()", round.x.close(), stage + 1);
            CHECKS.due("then count(1)", round.x.count(1), stage + 1);
            CHECKS.due("then count(6)", round.x.count(6), stage < 3 ? 0 : 255);
            round.deliverAll();
        }
    }

    private static void tooFewHeard() {
        for (int stage = 0; stage < 4; stage++) {
            Round few = new Round(5, 4).playTo(stage).stepAll().deliverOf(0b11010);
            CHECKS.due("three of four in stage " + stage + ": close()", few.x.close(), 5);
            CHECKS.due("then the reason", few.x.count(2), 1 + stage);
            CHECKS.due("then count(0)", few.x.count(0), 0);
            CHECKS.due("then count(6)", few.x.count(6), 0b11010);
            for (int i = 0; i < 3; i++) {
                CHECKS.due("then names of stage " + i, few.x.count(3 + i), i < stage ? 31 : 0);
            }
            CHECKS.badState("then total(0)", () -> few.x.total(0));
            Round enough = new Round(5, 4).playTo(stage).stepAll().deliverOf(0b11011);
            CHECKS.due("four of four in stage " + stage + ": close()", enough.x.close(), 1 + stage);
            CHECKS.due("then the reason", enough.x.count(2), 0);
        }
    }

    private static void head(MaskedSum x, int k, int stage, int u, int words) {
        CHECKS.due("answer's stage", x.message(k, 0), stage);
        CHECKS.due("answer's phone", x.message(k, 1), u);
        CHECKS.due("answer is the server's", x.message(k, 2), 1);
        CHECKS.due("answer's words", x.message(k, 3), words);
    }

    private static void answersToPublicNumbers() {
        Round round = new Round(5, 3).stepAll();
        MaskedSum x = round.x;
        // Words that are no number below P are handed on as they came.
        x.alter(3, 1, 0xe0000000);
        int[][] sent = new int[5][4];
        for (int u = 0; u < 5; u++) {
            for (int i = 0; i < 4; i++) {
                sent[u][i] = round.word(u, i);
            }
        }
        for (int k = 4; k >= 0; k--) {
            if (k == 1) {
                x.lose(k);
            } else {
                x.deliver(k);
            }
        }
        x.close();
        int[] order = {0, 2, 3, 4};
        CHECKS.due("answers", x.count(0), 4);
        for (int k = 0; k < 4; k++) {
            head(x, k, 0, order[k], 33);
            CHECKS.due("its names", round.word(k, 0), 0b11101);
            for (int v = 0; v < 8; v++) {
                for (int i = 0; i < 4; i++) {
                    int want = v > 4 || v == 1 ? 0 : sent[v][i];
                    CHECKS.due("number of phone " + v + ", word " + i, round.word(k, 1 + 4 * v + i), want);
                }
            }
        }
    }

    private static void answersToBoxes() {
        Round round = new Round(5, 3).playTo(1).stepAll();
        MaskedSum x = round.x;
        // What stands where no box is due doesn't get through.
        x.alter(2, 8 * 2, 99);
        x.alter(0, 8 * 2 + 7, 5);
        int[][] sent = new int[5][64];
        for (int u = 0; u < 5; u++) {
            for (int i = 0; i < 64; i++) {
                sent[u][i] = round.word(u, i);
            }
        }
        x.lose(3);
        round.deliverAll();
        x.close();
        int[] order = {0, 1, 2, 4};
        CHECKS.due("answers", x.count(0), 4);
        for (int k = 0; k < 4; k++) {
            int u = order[k];
            head(x, k, 1, u, 65);
            CHECKS.due("its names", round.word(k, 0), 0b10111);
            for (int v = 0; v < 8; v++) {
                for (int i = 0; i < 8; i++) {
                    int want = v > 4 || v == 3 || v == u ? 0 : sent[v][8 * u + i];
                    CHECKS.due("box of " + v + " for " + u + ", word " + i, round.word(k, 1 + 8 * v + i), want);
                }
            }
        }
    }

    private static void answersToMaskedWords() {
        Round round = new Round(5, 3).playTo(1).stepAll().deliverOf(0b11011);
        round.x.close();
        round.deliverAll().stepAll().deliverOf(0b10011);
        round.x.close();
        int[] order = {0, 1, 3, 4};
        CHECKS.due("answers to all of stage 1", round.x.count(0), 4);
        for (int k = 0; k < 4; k++) {
            head(round.x, k, 2, order[k], 1);
            CHECKS.due("its names", round.word(k, 0), 0b10011);
        }
    }

    private static void tooFewShares() {
        // Phone 0 can't open the box of phone 2, so that there are three shares of it.
        Round few = new Round(4, 4).playTo(1).playStage();
        few.x.alter(0, 1 + 16, 1);
        few.deliverAll().playStage().deliverAll().stepAll().deliverAll();
        CHECKS.due("three shares of four: close()", few.x.close(), 5);
        CHECKS.due("then the reason", few.x.count(2), 5);
        CHECKS.due("then count(5)", few.x.count(5), 15);
        CHECKS.due("then count(6)", few.x.count(6), 15);
        CHECKS.badState("then total(0)", () -> few.x.total(0));
        Round enough = new Round(4, 3).playTo(1).playStage();
        enough.x.alter(0, 1 + 16, 1);
        enough.deliverAll().playStage().deliverAll().stepAll().deliverAll();
        CHECKS.due("three shares of three: close()", enough.x.close(), 4);
        for (int k = 0; k < 4; k++) {
            CHECKS.due("then total(" + k + ")", enough.x.total(k), Round.sum(15, k));
        }
    }

    /** In each stage, for each set of phones heard: whether it fails, its reason, who is named and answered. */
    private static void everySetHeard() {
        for (int n = 3; n <= 5; n++) {
            for (int t = n / 2 + 1; t <= n; t++) {
                for (int stage = 0; stage < 4; stage++) {
                    for (int heard = 0; heard < 1 << n; heard++) {
                        closedWith(n, t, stage, heard);
                    }
                }
            }
        }
    }

    private static void closedWith(int n, int t, int stage, int heard) {
        Round round = new Round(n, t).playTo(stage).stepAll().deliverOf(heard);
        String text = n + ", " + t + ", stage " + stage + ", heard " + heard;
        boolean enough = Integer.bitCount(heard) >= t;
        CHECKS.due(text + ": close()", round.x.close(), enough ? stage + 1 : 5);
        CHECKS.due(text + ": count(1)", round.x.count(1), enough ? stage + 1 : 5);
        CHECKS.due(text + ": the reason", round.x.count(2), enough ? 0 : 1 + stage);
        for (int i = 0; i < 3; i++) {
            int names = i < stage ? (1 << n) - 1 : i == stage && enough ? heard : 0;
            CHECKS.due(text + ": names of stage " + i, round.x.count(3 + i), names);
        }
        CHECKS.due(text + ": count(6)", round.x.count(6), enough && stage < 3 ? 0 : heard);
        int answered = !enough || stage == 3 ? 0 : stage == 2 ? n : Integer.bitCount(heard);
        CHECKS.due(text + ": answers", round.x.count(0), answered);
    }

    private static void answersGoToTheLowestFirst() {
        int[] order = {3, 7, 0, 5, 1, 6, 2, 4};
        Round round = new Round(8, 5);
        for (int stage = 0; stage < 3; stage++) {
            for (int u : order) {
                round.x.step(u);
            }
            round.deliverAll().x.close();
            for (int u = 0; u < 8; u++) {
                CHECKS.due("stage " + stage + ": answer " + u, round.x.message(u, 1), u);
                CHECKS.due("stage " + stage + ": it is the server's", round.x.message(u, 2), 1);
            }
            round.deliverAll();
        }
    }

    /** What was on its way before a stage is closed is so behind it, and older than the answers. */
    private static void messagesStayOnTheirWay() {
        for (int stage = 0; stage < 4; stage++) {
            for (int arrive = 2; arrive <= 3; arrive++) {
                Round round = new Round(5, 3).playTo(stage).stepAll();
                for (int i = 0; i < arrive; i++) {
                    round.x.deliver(1);
                }
                round.x.close();
                int answers = arrive < 3 || stage == 3 ? 0 : stage == 2 ? 5 : 3;
                CHECKS.due("stage " + stage + ": count(0)", round.x.count(0), 5 - arrive + answers);
                CHECKS.due("the oldest is phone 0's", round.x.message(0, 1), 0);
                CHECKS.due("of this stage", round.x.message(0, 0), stage);
                CHECKS.due("no answer", round.x.message(0, 2), 0);
                CHECKS.due("the next is phone 4's", round.x.message(4 - arrive, 1), 4);
                CHECKS.due("no answer", round.x.message(4 - arrive, 2), 0);
            }
        }
    }

    /** These phones say that they hadn't the share of phone u. */
    private static void hadNot(Round round, int u, int... phones) {
        for (int v : phones) {
            round.x.alter(v, 0, 1 << u);
        }
    }

    private static void tooFewSharesOfASeed() {
        for (int u = 0; u < 5; u++) {
            Round enough = new Round(5, 3).playTo(3).stepAll();
            hadNot(enough, u, 1, 3);
            CHECKS.due("three shares of phone " + u, enough.deliverAll().x.close(), 4);
            CHECKS.due("the reason", enough.x.count(2), 0);
            Round few = new Round(5, 3).playTo(3).stepAll();
            hadNot(few, u, 1, 3, 4);
            CHECKS.due("two shares of phone " + u, few.deliverAll().x.close(), 5);
            CHECKS.due("the reason", few.x.count(2), 5);
            CHECKS.badState("then total(0)", () -> few.x.total(0));
            CHECKS.badState("then close()", () -> few.x.close());
        }
    }

    private static Round withoutWordsOf(int u) {
        Round round = new Round(5, 3).playTo(2).stepAll().deliverOf(31 & ~(1 << u));
        round.x.close();
        return round.deliverAll().stepAll();
    }

    private static void tooFewSharesOfAMaskKey() {
        for (int u = 0; u < 5; u++) {
            Round enough = withoutWordsOf(u);
            hadNot(enough, u, 0, 4);
            CHECKS.due("three shares of phone " + u, enough.deliverAll().x.close(), 4);
            for (int k = 0; k < 4; k++) {
                CHECKS.due("total(" + k + ")", enough.x.total(k), Round.sum(31 & ~(1 << u), k));
            }
            Round few = withoutWordsOf(u);
            hadNot(few, u, 0, 4, 2);
            CHECKS.due("two shares of phone " + u, few.deliverAll().x.close(), 5);
            CHECKS.due("the reason", few.x.count(2), 5);
        }
    }

    /** With less than t phones heard the reason is that, whatever shares they had. */
    private static void tooFewPhonesBeforeTooFewShares() {
        Round round = new Round(5, 3).playTo(3).stepAll();
        hadNot(round, 2, 0, 1, 2, 3, 4);
        round.deliverOf(0b00011);
        CHECKS.due("close()", round.x.close(), 5);
        CHECKS.due("the reason", round.x.count(2), 4);
        Round enough = new Round(5, 3).playTo(3).stepAll();
        hadNot(enough, 2, 0, 1, 2, 3, 4);
        enough.deliverOf(0b00111);
        CHECKS.due("close()", enough.x.close(), 5);
        CHECKS.due("the reason", enough.x.count(2), 5);
    }

    /** Phone 1 fell out in stage 1: nothing of it is joined, and what is said of it or of no phone is nothing. */
    private static void sharesOfOthersAreNotNeeded() {
        Round round = new Round(5, 3).playTo(1).stepAll().deliverOf(0b11101);
        round.x.close();
        round.deliverAll().playStage().deliverAll().stepAll();
        for (int k = 0; k < 4; k++) {
            CHECKS.due("no share of phone 1", round.word(k, 0), 0b11101);
            round.x.alter(k, 0, 0xffffff02);
            round.x.alter(k, 3, 12345);
        }
        CHECKS.due("close()", round.deliverAll().x.close(), 4);
        for (int k = 0; k < 4; k++) {
            CHECKS.due("total(" + k + ")", round.x.total(k), Round.sum(0b11101, k));
        }
    }
}
