/** Promise 14. */
public final class StreamTest {
    private static final Checks CHECKS = new Checks();

    /** RFC 8439, A.1, test vector 1: key, nonce and counter 0. */
    private static final int[] ZERO_BLOCK = {
        0xade0b876, 0x903df1a0, 0xe56a5d40, 0x28bd8653, 0xb819d2bd, 0x1aed8da0, 0xccef36a8, 0xc70d778b,
        0x7c5941da, 0x8d485751, 0x3fe02477, 0x374ad8b8, 0xf4b8436a, 0x1ca11815, 0x69b687c3, 0x8665eeb2};
    /** A.1, test vector 2: the same with counter 1, its first four words. */
    private static final int[] ONE_BLOCK = {0xbee7079f, 0x7a385155, 0x7c97ba98, 0x0d082d73};

    public static void main(String[] args) {
        MaskedSum x = new MaskedSum();
        for (int k = 0; k < 16; k++) {
            CHECKS.due("stream(0, 0, 0, 0, " + k + ")", x.stream(0, 0, 0, 0, k), ZERO_BLOCK[k]);
        }
        for (int k = 0; k < 4; k++) {
            CHECKS.due("stream(0, 0, 0, 0, 16 + " + k + ")", x.stream(0, 0, 0, 0, 16 + k), ONE_BLOCK[k]);
        }
        int[][] cases = {{1, 2, 3, 4}, {-1, -1, 1, 2}, {-1, 0x1fffffff, 1, 2}, {-2, 0x1fffffff, -1, -1},
            {5, 0x60000000, 0, 7}, {0x12345678, 0x9abcdef0, Integer.MIN_VALUE, Integer.MAX_VALUE}};
        for (int[] c : cases) {
            int[] want = Reference.stream(Reference.number(c[0], c[1]), c[2], c[3], 64);
            for (int k = 0; k < 64; k++) {
                String text = "stream(" + c[0] + ", " + c[1] + ", " + c[2] + ", " + c[3] + ", " + k + ")";
                CHECKS.due(text, x.stream(c[0], c[1], c[2], c[3], k), want[k]);
            }
        }
        for (int bad : new int[] {-1, 64, Integer.MIN_VALUE, Integer.MAX_VALUE}) {
            CHECKS.badArgument("stream(1, 0, 1, 2, " + bad + ")", () -> x.stream(1, 0, 1, 2, bad));
        }
        changesNothing();
        CHECKS.end();
    }

    /** A stream asked for between the calls of a round doesn't show in it. */
    private static void changesNothing() {
        Round round = new Round(3, 2);
        for (int stage = 0; stage < 4; stage++) {
            for (int u = 0; u < 3; u++) {
                round.x.step(u);
                round.x.stream(u, stage, -1, -1, 63);
            }
            round.deliverAll();
            round.x.stream(1, 2, 3, 4, 5);
            round.x.close();
            round.deliverAll();
        }
        for (int k = 0; k < 4; k++) {
            CHECKS.due("total(" + k + ")", round.x.total(k), Round.sum(7, k));
        }
    }
}
