/** Promises 12 and 13: phone and count. */
public final class TellTest {
    private static final Checks CHECKS = new Checks();

    public static void main(String[] args) {
        noSuchPhoneOrWhat();
        sentAndTaken();
        sharesGiven();
        counts();
        otherWhats();
        CHECKS.end();
    }

    private static void noSuchPhoneOrWhat() {
        MaskedSum x = new Round(5, 3).x;
        for (int bad : new int[] {-1, 5, 8, Integer.MIN_VALUE, Integer.MAX_VALUE}) {
            CHECKS.badArgument("phone(" + bad + ", 0)", () -> x.phone(bad, 0));
        }
        for (int bad : new int[] {-1, 4, Integer.MIN_VALUE, Integer.MAX_VALUE}) {
            CHECKS.badArgument("phone(0, " + bad + ")", () -> x.phone(0, bad));
        }
        x.close();
        CHECKS.due("failed: phone(4, 0)", x.phone(4, 0), 0);
        CHECKS.badArgument("failed: phone(5, 0)", () -> x.phone(5, 0));
        x.start(3, 2);
        CHECKS.badArgument("a smaller round: phone(3, 0)", () -> x.phone(3, 0));
    }

    private static void phone(MaskedSum x, int u, int... want) {
        for (int what = 0; what < want.length; what++) {
            CHECKS.due("phone(" + u + ", " + what + ")", x.phone(u, what), want[what]);
        }
    }

    private static void sentAndTaken() {
        Round round = new Round(3, 2);
        for (int stage = 0; stage < 4; stage++) {
            phone(round.x, 1, stage, stage, 0, 0);
            round.x.step(1);
            phone(round.x, 1, stage + 1, stage, stage < 3 ? 0 : 7, 0);
            round.stepAll().deliverAll().x.close();
            phone(round.x, 1, stage + 1, stage, stage < 3 ? 0 : 7, 0);
            round.deliverAll();
        }
        phone(round.x, 1, 4, 3, 7, 0);
    }

    private static void sharesGiven() {
        Round round = new Round(6, 4).playTo(1).stepAll().deliverOf(0b111110);
        round.x.close();
        // Phone 1 can't open the box of phone 4, nor phone 2 that of phone 5.
        round.x.alter(0, 1 + 8 * 4 + 5, 1);
        round.x.alter(1, 1 + 8 * 5 + 3, 1);
        round.deliverAll().stepAll().deliverOf(0b011110);
        round.x.close();
        round.deliverAll();
        phone(round.x, 1, 3, 3, 0, 0);
        round.stepAll();
        phone(round.x, 0, 2, 1, 0, 0);
        phone(round.x, 1, 4, 3, 0b001110, 0b100000);
        phone(round.x, 2, 4, 3, 0b011110, 0);
        phone(round.x, 3, 4, 3, 0b011110, 0b100000);
        phone(round.x, 5, 4, 3, 0b011110, 0b100000);
    }

    private static void count(MaskedSum x, int... want) {
        for (int what = 0; what < want.length; what++) {
            CHECKS.due("count(" + what + ")", x.count(what), want[what]);
        }
    }

    private static void counts() {
        Round round = new Round(5, 3);
        MaskedSum x = round.x;
        count(x, 0, 0, 0, 0, 0, 0, 0);
        round.stepAll();
        count(x, 5, 0, 0, 0, 0, 0, 0);
        x.deliver(4);
        x.deliver(0);
        count(x, 3, 0, 0, 0, 0, 0, 0b10001);
        round.deliverAll();
        x.close();
        count(x, 5, 1, 0, 31, 0, 0, 0);
        round.deliverAll().stepAll().deliverOf(0b11110);
        count(x, 0, 1, 0, 31, 0, 0, 0b11110);
        x.close();
        count(x, 4, 2, 0, 31, 0b11110, 0, 0);
        round.deliverAll().stepAll().deliverOf(0b11100);
        x.close();
        count(x, 4, 3, 0, 31, 0b11110, 0b11100, 0);
        round.deliverAll().stepAll().deliverOf(0b01110);
        count(x, 0, 3, 0, 31, 0b11110, 0b11100, 0b01110);
        x.close();
        count(x, 0, 4, 0, 31, 0b11110, 0b11100, 0b01110);
        x.start(4, 4);
        x.step(2);
        x.step(3);
        x.deliver(1);
        x.close();
        count(x, 1, 5, 1, 0, 0, 0, 0b1000);
        x.start(4, 3);
        count(x, 0, 0, 0, 0, 0, 0, 0);
    }

    private static void otherWhats() {
        MaskedSum x = new Round(3, 2).playTo(2).x;
        for (int other : new int[] {-1, 7, 8, Integer.MIN_VALUE, Integer.MAX_VALUE}) {
            CHECKS.due("count(" + other + ")", x.count(other), -1);
            CHECKS.due("new: count(" + other + ")", new MaskedSum().count(other), -1);
        }
    }
}
