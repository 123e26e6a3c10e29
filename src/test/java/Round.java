import java.math.BigInteger;

/** A round under way, with secrets and inputs that tests can tell by heart. */
final class Round {
    final MaskedSum x = new MaskedSum();
    final int n;
    final int t;

    Round(int n, int t) {
        this.n = n;
        this.t = t;
        for (int u = 0; u < 8; u++) {
            for (int which = 0; which < 3; which++) {
                x.secret(u, which, secretLow(u, which), secretHigh(u, which));
            }
            for (int k = 0; k < 4; k++) {
                x.input(u, k, inputWord(u, k));
            }
        }
        x.start(n, t);
    }

    private static int secretLow(int u, int which) {
        return 0x9e3779b9 * (3 * u + which + 1);
    }

    private static int secretHigh(int u, int which) {
        return 0x85ebca6b * (3 * u + which + 2);
    }

    static BigInteger secret(int u, int which) {
        return Reference.number(secretLow(u, which), secretHigh(u, which));
    }

    static int inputWord(int u, int k) {
        return k == 3 ? Integer.MAX_VALUE - u : 1000 * k + u + 1;
    }

    /** The sum of the inputs of the phones named. */
    static int sum(int names, int k) {
        int sum = 0;
        for (int u = 0; u < 8; u++) {
            sum += (names >> u & 1) == 1 ? inputWord(u, k) : 0;
        }
        return sum;
    }

    int everyone() {
        return (1 << n) - 1;
    }

    Round stepAll() {
        for (int u = 0; u < n; u++) {
            x.step(u);
        }
        return this;
    }

    Round deliverAll() {
        deliverAll(x);
        return this;
    }

    private static void deliverAll(MaskedSum x) {
        for (int left = x.count(0); left > 0; left--) {
            x.deliver(0);
        }
    }

    /** Everyone sends, all arrives, the stage is closed; the answers are on their way. */
    Round playStage() {
        stepAll().deliverAll().x.close();
        return this;
    }

    /** Stages before this one have gone well, and everyone has what it needs for it. */
    Round playTo(int stage) {
        for (int i = 0; i < stage; i++) {
            playStage().deliverAll();
        }
        return this;
    }

    /** As playTo, on an object of the caller's own, with n phones. */
    static void play(MaskedSum x, int n, int stages) {
        for (int stage = 0; stage < stages; stage++) {
            for (int u = 0; u < n; u++) {
                x.step(u);
            }
            deliverAll(x);
            x.close();
            deliverAll(x);
        }
    }

    /** Only the messages of the phones named arrive, others are lost. */
    Round deliverOf(int names) {
        for (int left = x.count(0); left > 0; left--) {
            if ((names >> x.message(0, 1) & 1) == 1) {
                x.deliver(0);
            } else {
                x.lose(0);
            }
        }
        return this;
    }

    /** The place of the oldest of the server's answers to phone u that are on their way. */
    int answerTo(int u) {
        for (int k = 0; k < x.count(0); k++) {
            if (x.message(k, 1) == u && x.message(k, 2) == 1) {
                return k;
            }
        }
        throw new AssertionError("no answer to phone " + u);
    }

    /** Word i of the k-th message becomes this one. */
    Round set(int k, int i, int word) {
        x.alter(k, i, word(k, i) ^ word);
        return this;
    }

    /** Word i of the k-th message. */
    int word(int k, int i) {
        return x.message(k, 4 + i);
    }
}
