/** "Terms": when the server hears of a phone. */
public final class HearingTest {
    private static final Checks CHECKS = new Checks();

    public static void main(String[] args) {
        onlyOfTheStageThatIsOpen();
        everyPhoneInStageZero();
        onceInAStage();
        ofStageOneIfNamedInStageZero();
        ofStageTwoIfNamedInStageOne();
        ofStageThreeIfNamedInStageOne();
        masksTooLateAreNoShares();
        elseItDoesNothing();
        nobodyWhenNoStageIsOpen();
        whatCameIsKeptAsItIs();
        CHECKS.end();
    }

    /** A message of phone 3 arrives when its stage has been closed without it. */
    private static void onlyOfTheStageThatIsOpen() {
        for (int stage = 0; stage < 3; stage++) {
            Round round = new Round(4, 3).playTo(stage).stepAll();
            for (int i = 0; i < 3; i++) {
                CHECKS.due("in time: deliver(0)", round.x.deliver(0), true);
            }
            CHECKS.due("close()", round.x.close(), stage + 1);
            CHECKS.due("its stage", round.x.message(0, 0), stage);
            CHECKS.due("its phone", round.x.message(0, 1), 3);
            CHECKS.due("too late in stage " + (stage + 1) + ": deliver(0)", round.x.deliver(0), false);
            CHECKS.due("it is gone", round.x.message(0, 2), 1);
            CHECKS.due("it isn't heard", round.x.count(6), 0);
            CHECKS.due("nor named", round.x.count(3 + stage), 7);
        }
    }

    private static void everyPhoneInStageZero() {
        for (int n = 3; n <= 8; n++) {
            Round round = new Round(n, n).stepAll();
            int heard = 0;
            for (int u = n - 1; u >= 0; u--) {
                CHECKS.due("phone " + u + " of " + n, round.x.deliver(u), true);
                heard |= 1 << u;
                CHECKS.due("heard", round.x.count(6), heard);
            }
        }
    }

    /** A phone sends once in a stage, so that nothing can come a second time. */
    private static void onceInAStage() {
        Round round = new Round(3, 2);
        for (int stage = 0; stage < 4; stage++) {
            round.stepAll().deliverAll();
            CHECKS.due("stage " + stage + ": heard", round.x.count(6), 7);
            for (int u = 0; u < 3; u++) {
                CHECKS.due("stage " + stage + ": again step(" + u + ")", round.x.step(u), false);
            }
            CHECKS.due("stage " + stage + ": nothing on its way", round.x.count(0), 0);
            round.x.close();
            CHECKS.due("a new stage, nobody heard", round.x.count(6), stage < 3 ? 0 : 7);
            round.deliverAll();
        }
    }

    private static void ofStageOneIfNamedInStageZero() {
        Round round = new Round(5, 3).stepAll().deliverOf(0b10110);
        round.x.close();
        CHECKS.due("answers", round.x.count(0), 3);
        round.deliverAll().stepAll();
        CHECKS.due("those named send", round.x.count(0), 3);
        round.deliverAll();
        CHECKS.due("heard", round.x.count(6), 0b10110);
    }

    private static void ofStageTwoIfNamedInStageOne() {
        Round round = new Round(5, 3).playTo(1).stepAll().deliverOf(0b01101);
        round.x.close();
        round.deliverAll().stepAll();
        CHECKS.due("those named send", round.x.count(0), 3);
        round.deliverAll();
        CHECKS.due("heard", round.x.count(6), 0b01101);
    }

    /** Phone 3 was not heard in stage 2, but named in stage 1; phone 4 was not. */
    private static void ofStageThreeIfNamedInStageOne() {
        Round round = new Round(5, 3).playTo(1).stepAll().deliverOf(0b01111);
        round.x.close();
        round.deliverAll().stepAll().deliverOf(0b00111);
        CHECKS.due("close()", round.x.close(), 3);
        CHECKS.due("an answer to phone 3 too", round.answerTo(3), 3);
        round.deliverAll();
        CHECKS.due("step(4)", round.x.step(4), false);
        CHECKS.due("step(3)", round.x.step(3), true);
        CHECKS.due("deliver(0)", round.x.deliver(0), true);
        CHECKS.due("heard", round.x.count(6), 0b01000);
        round.playStage();
        for (int k = 0; k < 4; k++) {
            CHECKS.due("total(" + k + ")", round.x.total(k), Round.sum(0b00111, k));
        }
    }

    private static void masksTooLateAreNoShares() {
        Round round = new Round(4, 3).playTo(2).stepAll();
        for (int i = 0; i < 3; i++) {
            round.x.deliver(0);
        }
        round.x.close();
        CHECKS.due("masked words in stage 3: deliver(0)", round.x.deliver(0), false);
        CHECKS.due("heard", round.x.count(6), 0);
        round.deliverAll();
        CHECKS.due("it goes on: step(3)", round.x.step(3), true);
        CHECKS.due("its shares are heard: deliver(0)", round.x.deliver(0), true);
        CHECKS.due("heard", round.x.count(6), 0b1000);
    }

    private static void elseItDoesNothing() {
        for (int stage = 0; stage < 3; stage++) {
            Round one = lateMessage(stage);
            Round other = lateMessage(stage);
            CHECKS.due("too late: deliver(0)", one.x.deliver(0), false);
            other.x.lose(0);
            CHECKS.same("stage " + stage + ": as if lost", Snapshot.of(one.x), Snapshot.of(other.x));
            for (int i = stage; i < 3; i++) {
                one.deliverAll().playStage();
                other.deliverAll().playStage();
                CHECKS.same("stage " + stage + ": later on", Snapshot.of(one.x), Snapshot.of(other.x));
            }
            CHECKS.due("ended", one.x.count(1), 4);
        }
    }

    /** Phone 0's message of a stage, altered, comes when others' answers are on their way. */
    private static Round lateMessage(int stage) {
        Round round = new Round(4, 3).playTo(stage).stepAll();
        for (int i = 0; i < 3; i++) {
            round.x.deliver(1);
        }
        round.x.close();
        for (int i = 0; i < round.x.message(0, 3); i++) {
            round.x.alter(0, i, 0x55555555);
        }
        return round;
    }

    private static void nobodyWhenNoStageIsOpen() {
        for (int stage = 0; stage < 4; stage++) {
            Round round = new Round(4, 4).playTo(stage).stepAll();
            round.x.deliver(1);
            CHECKS.due("one of four: close()", round.x.close(), 5);
            CHECKS.due("failed in stage " + stage + ": deliver(0)", round.x.deliver(0), false);
            CHECKS.due("count(6)", round.x.count(6), 0b0010);
            CHECKS.due("count(0)", round.x.count(0), 2);
        }
        Round ended = new Round(4, 3).playTo(3).stepAll();
        for (int i = 0; i < 3; i++) {
            ended.x.deliver(0);
        }
        CHECKS.due("three of four: close()", ended.x.close(), 4);
        CHECKS.due("ended: deliver(0)", ended.x.deliver(0), false);
        CHECKS.due("count(6)", ended.x.count(6), 0b0111);
        for (int k = 0; k < 4; k++) {
            CHECKS.due("total(" + k + ")", ended.x.total(k), Round.sum(15, k));
        }
    }

    /** Whatever the words, the phone is heard. */
    private static void whatCameIsKeptAsItIs() {
        int[] lengths = {4, 64, 4, 17};
        for (int stage = 0; stage < 4; stage++) {
            for (int i = 0; i < lengths[stage]; i++) {
                Round round = new Round(3, 2).playTo(stage).stepAll();
                round.x.alter(1, i, -1);
                CHECKS.due("stage " + stage + ", word " + i + " altered: deliver(1)", round.x.deliver(1), true);
                CHECKS.due("heard", round.x.count(6), 2);
            }
        }
    }
}
