import java.math.BigInteger;
import java.util.ArrayList;
import java.util.Arrays;
import java.util.List;
import java.util.Set;
import java.util.TreeSet;

/** The document once more, written for plainness alone, to hold MaskedSum against. */
final class Model {
    private static final class Letter {
        final int stage;
        final int phone;
        final boolean server;
        final int[] words;

        Letter(int stage, int phone, boolean server, int[] words) {
            this.stage = stage;
            this.phone = phone;
            this.server = server;
            this.words = words;
        }
    }

    private static final class Handset {
        final BigInteger[] secrets = {BigInteger.ZERO, BigInteger.ZERO, BigInteger.ZERO};
        final int[] input = new int[4];
        int sent;
        List<int[]> answers = new ArrayList<>();
        int gaveSeeds;
        int gaveKeys;
    }

    private final Handset[] handsets = new Handset[8];
    private int n;
    private int t;
    private int stage = 5;
    private int reason;
    private List<Letter> letters = new ArrayList<>();
    private int[][][] heard = new int[4][8][];
    private int[] names = new int[3];
    private int[] sum;
    private int lastHeard;

    Model() {
        Arrays.setAll(handsets, u -> new Handset());
    }

    void start(int phones, int threshold) {
        argument(phones >= 3 && phones <= 8);
        argument(threshold <= phones && 2L * threshold > phones);
        n = phones;
        t = threshold;
        stage = 0;
        reason = 0;
        letters = new ArrayList<>();
        heard = new int[4][8][];
        names = new int[3];
        sum = null;
        for (Handset h : handsets) {
            h.sent = 0;
            h.answers = new ArrayList<>();
            h.gaveSeeds = 0;
            h.gaveKeys = 0;
        }
    }

    void secret(int u, int which, int low, int high) {
        argument(u >= 0 && u <= 7 && which >= 0 && which <= 2);
        state(stage > 3 || handsets[u].sent == 0);
        handsets[u].secrets[which] = Reference.number(low, high);
    }

    void input(int u, int k, int v) {
        argument(u >= 0 && u <= 7 && k >= 0 && k <= 3);
        state(stage > 3 || handsets[u].sent < 3);
        handsets[u].input[k] = v;
    }

    boolean step(int u) {
        argument(u >= 0 && u < n);
        state(stage < 4);
        Handset h = handsets[u];
        if (h.sent == 4 || h.answers.size() < h.sent) {
            return false;
        }
        int[] words;
        if (h.sent == 0) {
            words = publicKeys(h);
        } else if (h.sent == 1) {
            words = sealedShares(u, h);
        } else if (h.sent == 2) {
            words = maskedInput(u, h);
        } else {
            words = sharesOfSecrets(u, h);
        }
        letters.add(new Letter(h.sent, u, false, words));
        h.sent++;
        return true;
    }

    private static int[] publicKeys(Handset h) {
        BigInteger mask = Reference.publicNumber(h.secrets[0]);
        BigInteger box = Reference.publicNumber(h.secrets[1]);
        return new int[] {Reference.low(mask), Reference.high(mask), Reference.low(box), Reference.high(box)};
    }

    private static BigInteger agreed(Handset h, int v, int key) {
        int[] keys = h.answers.get(0);
        int at = 1 + 4 * v + 2 * key;
        return Reference.power(Reference.number(keys[at], keys[at + 1]), h.secrets[key]);
    }

    private int[] sharesFor(int u, Handset h, int v) {
        BigInteger seed = Reference.share(h.secrets[2], h.secrets[2], 1, u, t, v);
        BigInteger key = Reference.share(h.secrets[0], h.secrets[2], 0, u, t, v);
        return new int[] {Reference.low(seed), Reference.high(seed), Reference.low(key), Reference.high(key)};
    }

    private int[] sealedShares(int u, Handset h) {
        int[] words = new int[64];
        for (int v : members(h.answers.get(0)[0])) {
            if (v != u) {
                int[] box = Reference.seal(agreed(h, v, 1), u, v, sharesFor(u, h, v));
                System.arraycopy(box, 0, words, 8 * v, 8);
            }
        }
        return words;
    }

    private int[] maskedInput(int u, Handset h) {
        int[] words = h.input.clone();
        add(words, 1, Reference.stream(h.secrets[2], 0, u, 4));
        for (int v : members(h.answers.get(1)[0])) {
            if (v != u) {
                add(words, v > u ? 1 : -1, Reference.stream(agreed(h, v, 0), 1, 0, 4));
            }
        }
        return words;
    }

    private int[] sharesOfSecrets(int u, Handset h) {
        int[] words = new int[17];
        for (int v : members(h.answers.get(1)[0])) {
            int[] box = Arrays.copyOfRange(h.answers.get(1), 1 + 8 * v, 9 + 8 * v);
            int[] text = v == u ? sharesFor(u, h, u) : Reference.open(agreed(h, v, 1), v, u, box);
            if (text == null) {
                continue;
            }
            words[0] |= 1 << v;
            if (members(h.answers.get(2)[0]).contains(v)) {
                h.gaveSeeds |= 1 << v;
                words[1 + 2 * v] = text[0];
                words[2 + 2 * v] = text[1];
            } else {
                h.gaveKeys |= 1 << v;
                words[1 + 2 * v] = text[2];
                words[2 + 2 * v] = text[3];
            }
        }
        return words;
    }

    int close() {
        state(stage < 4);
        int came = heardNames();
        if (Integer.bitCount(came) < t) {
            reason = 1 + stage;
            stage = 5;
        } else if (stage == 3) {
            endRound();
        } else {
            names[stage] = came;
            for (int u : members(stage == 2 ? names[1] : came)) {
                letters.add(new Letter(stage, u, true, answerTo(u)));
            }
            stage++;
        }
        lastHeard = stage < 4 ? 0 : came;
        return stage;
    }

    private int heardNames() {
        int bits = 0;
        for (int u = 0; u < 8; u++) {
            bits |= heard[stage][u] == null ? 0 : 1 << u;
        }
        return bits;
    }

    private int[] answerTo(int u) {
        int[] words = new int[stage == 0 ? 33 : stage == 1 ? 65 : 1];
        words[0] = names[stage];
        for (int v : members(names[stage])) {
            if (stage == 0) {
                System.arraycopy(heard[0][v], 0, words, 1 + 4 * v, 4);
            } else if (stage == 1 && v != u) {
                System.arraycopy(heard[1][v], 8 * u, words, 1 + 8 * v, 8);
            }
        }
        return words;
    }

    private void endRound() {
        int[] total = new int[4];
        for (int u : members(names[1])) {
            List<Integer> holders = new ArrayList<>();
            List<BigInteger> shares = new ArrayList<>();
            for (int v : members(heardNames())) {
                int[] words = heard[3][v];
                if (holders.size() < t && members(words[0] & 255).contains(u)) {
                    holders.add(v);
                    shares.add(Reference.number(words[1 + 2 * u], words[2 + 2 * u]));
                }
            }
            if (holders.size() < t) {
                stage = 5;
                reason = 5;
                return;
            }
            takeOff(total, u, Reference.join(holders, shares));
        }
        stage = 4;
        sum = total;
    }

    private void takeOff(int[] total, int u, BigInteger secret) {
        if (members(names[2]).contains(u)) {
            add(total, 1, heard[2][u]);
            add(total, -1, Reference.stream(secret, 0, u, 4));
            return;
        }
        for (int v : members(names[2])) {
            BigInteger shown = Reference.number(heard[0][v][0], heard[0][v][1]);
            add(total, u > v ? -1 : 1, Reference.stream(Reference.power(shown, secret), 1, 0, 4));
        }
    }

    boolean deliver(int k) {
        Letter letter = letter(k);
        letters.remove(k);
        int u = letter.phone;
        if (letter.server) {
            Handset h = handsets[u];
            if (letter.stage != h.sent - 1 || letter.stage != h.answers.size() || !good(letter, h)) {
                return false;
            }
            h.answers.add(letter.words);
            return true;
        }
        boolean awaited = stage == 0 || stage < 4 && members(names[stage == 1 ? 0 : 1]).contains(u);
        if (letter.stage != stage || !awaited || heard[stage][u] != null) {
            return false;
        }
        heard[stage][u] = letter.words;
        return true;
    }

    private boolean good(Letter letter, Handset h) {
        int said = letter.words[0];
        if (said < 0 || said >= 1 << n) {
            return false;
        }
        Set<Integer> members = members(said);
        return members.size() >= t && (letter.stage == 2 || members.contains(letter.phone))
                && (letter.stage == 0 || members(h.answers.get(letter.stage - 1)[0]).containsAll(members));
    }

    void lose(int k) {
        letter(k);
        letters.remove(k);
    }

    void alter(int k, int i, int mask) {
        int[] words = letter(k).words;
        argument(i >= 0 && i < words.length);
        words[i] ^= mask;
    }

    int message(int k, int what) {
        Letter letter = letter(k);
        argument(what >= 0 && what < letter.words.length + 4L);
        if (what >= 4) {
            return letter.words[what - 4];
        }
        return new int[] {letter.stage, letter.phone, letter.server ? 1 : 0, letter.words.length}[what];
    }

    int total(int k) {
        argument(k >= 0 && k <= 3);
        state(sum != null);
        return sum[k];
    }

    int phone(int u, int what) {
        argument(u >= 0 && u < n && what >= 0 && what <= 3);
        Handset h = handsets[u];
        return new int[] {h.sent, h.answers.size(), h.gaveSeeds, h.gaveKeys}[what];
    }

    int count(int what) {
        if (what < 0 || what > 6) {
            return -1;
        }
        int now = stage < 4 ? heardNames() : n == 0 ? 0 : lastHeard;
        return new int[] {letters.size(), stage, reason, names[0], names[1], names[2], now}[what];
    }

    int stream(int low, int high, int a, int b, int k) {
        argument(k >= 0 && k <= 63);
        return Reference.stream(Reference.number(low, high), a, b, 64)[k];
    }

    private Letter letter(int k) {
        argument(k >= 0 && k < letters.size());
        return letters.get(k);
    }

    private static Set<Integer> members(int names) {
        Set<Integer> set = new TreeSet<>();
        for (int u = 0; u < 8; u++) {
            if ((names >> u & 1) == 1) {
                set.add(u);
            }
        }
        return set;
    }

    private static void add(int[] words, int sign, int[] more) {
        for (int i = 0; i < 4; i++) {
            words[i] += sign * more[i];
        }
    }

    private static void argument(boolean good) {
        if (!good) {
            throw new IllegalArgumentException();
        }
    }

    private static void state(boolean good) {
        if (!good) {
            throw new IllegalStateException();
        }
    }
}
