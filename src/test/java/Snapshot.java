/** All that an object tells of itself, as a text: two are the same if nothing has changed between them. */
final class Snapshot {
    private Snapshot() {
    }

    static String of(MaskedSum x) {
        StringBuilder text = new StringBuilder();
        for (int what = -1; what <= 7; what++) {
            text.append("count(").append(what).append(") ").append(x.count(what)).append('\n');
        }
        for (int k = 0; k < 4; k++) {
            text.append("total(").append(k).append(") ").append(total(x, k)).append('\n');
        }
        for (int u = 0; u < 8; u++) {
            for (int what = 0; what < 4; what++) {
                text.append("phone(").append(u).append(", ").append(what).append(") ").append(phone(x, u, what)).append('\n');
            }
        }
        for (int k = 0; k < x.count(0); k++) {
            text.append("message ").append(k).append(':');
            for (int what = 0; what < 4 + x.message(k, 3); what++) {
                text.append(' ').append(x.message(k, what));
            }
            text.append('\n');
        }
        return text.toString();
    }

    private static String total(MaskedSum x, int k) {
        try {
            return String.valueOf(x.total(k));
        } catch (IllegalStateException e) {
            return "none";
        }
    }

    private static String phone(MaskedSum x, int u, int what) {
        try {
            return String.valueOf(x.phone(u, what));
        } catch (IllegalArgumentException e) {
            return "none";
        }
    }
}
