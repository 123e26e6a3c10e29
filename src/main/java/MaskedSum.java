import java.util.Arrays;

/**
 * Totals of hidden numbers: phones mask what they send, in pairs and privately, and a server learns
 * the sum alone, from shares of what made the masks.
 *
 * <p>Every row that a call needs is made in the constructors and used again, so that a call makes no
 * object but an exception.
 */
public final class MaskedSum {
    private static final int LEAST_PHONES = 3;
    private static final int MOST_PHONES = 8;
    private static final int INPUT_WORDS = 4;
    private static final int STREAM_WORDS = 64;
    private static final int BLOCK_WORDS = 16;

    private static final int MASK_KEY = 0;
    private static final int BOX_KEY = 1;
    private static final int SEED = 2;
    private static final int SECRETS = 3;

    private static final int STAGE_KEYS = 0;
    private static final int STAGE_BOXES = 1;
    private static final int STAGE_MASKED = 2;
    private static final int STAGE_SHARES = 3;
    private static final int ENDED = 4;
    private static final int FAILED = 5;
    private static final int SENT_STAGES = 4;
    private static final int ANSWERED_STAGES = 3;
    private static final int TOO_FEW_SHARES = 5;

    private static final int KEY_WORDS = 4;
    private static final int BOX_WORDS = 8;
    private static final int[] SENT_WORDS = {4, 64, 4, 17};
    private static final int[] ANSWER_WORDS = {33, 65, 1};

    private static final int PRIVATE_MASK = 0;
    private static final int PAIRWISE_MASK = 1;
    private static final int MASK_KEY_SHARES = 2;
    private static final int SEED_SHARES = 3;

    private final Crypto crypto = new Crypto();
    private final Mail mail = new Mail();
    private final Server server = new Server();
    private final Phone[] phones = new Phone[MOST_PHONES];

    public MaskedSum() {
        for (int u = 0; u < MOST_PHONES; u++) {
            phones[u] = new Phone(u);
        }
    }

    public void start(int n, int t) throws IllegalArgumentException {
        if (n < LEAST_PHONES || n > MOST_PHONES || t > n || t <= n / 2) {
            throw new IllegalArgumentException();
        }
        mail.clear();
        server.begin(n, t);
        for (int u = 0; u < MOST_PHONES; u++) {
            phones[u].begin();
        }
    }

    public void secret(int u, int which, int low, int high) throws IllegalArgumentException, IllegalStateException {
        if (u < 0 || u >= MOST_PHONES || which < 0 || which >= SECRETS) {
            throw new IllegalArgumentException();
        }
        if (server.isOpen() && phones[u].sent > STAGE_KEYS) {
            throw new IllegalStateException();
        }
        phones[u].secrets[which] = Numbers.ofWords(low, high);
    }

    public void input(int u, int k, int v) throws IllegalArgumentException, IllegalStateException {
        if (u < 0 || u >= MOST_PHONES || k < 0 || k >= INPUT_WORDS) {
            throw new IllegalArgumentException();
        }
        if (server.isOpen() && phones[u].sent > STAGE_MASKED) {
            throw new IllegalStateException();
        }
        phones[u].inputs[k] = v;
    }

    public boolean step(int u) throws IllegalArgumentException, IllegalStateException {
        if (!isInRound(u)) {
            throw new IllegalArgumentException();
        }
        if (!server.isOpen()) {
            throw new IllegalStateException();
        }
        return phones[u].sendNext(mail, crypto, server.threshold);
    }

    public int close() throws IllegalStateException {
        if (!server.isOpen()) {
            throw new IllegalStateException();
        }
        server.closeStage(mail, crypto);
        return server.stage;
    }

    public boolean deliver(int k) throws IllegalArgumentException {
        if (!mail.has(k)) {
            throw new IllegalArgumentException();
        }
        Message arrived = mail.remove(k);
        if (arrived.fromServer) {
            return phones[arrived.party].takeAnswer(arrived, server.size, server.threshold);
        }
        return server.hear(arrived);
    }

    public void lose(int k) throws IllegalArgumentException {
        if (!mail.has(k)) {
            throw new IllegalArgumentException();
        }
        mail.remove(k);
    }

    public void alter(int k, int i, int mask) throws IllegalArgumentException {
        if (!mail.has(k) || i < 0 || i >= mail.get(k).words.length) {
            throw new IllegalArgumentException();
        }
        mail.get(k).words[i] ^= mask;
    }

    public int message(int k, int what) throws IllegalArgumentException {
        if (!mail.has(k) || what < 0 || what >= Message.HEAD_WORDS + mail.get(k).words.length) {
            throw new IllegalArgumentException();
        }
        return mail.get(k).tell(what);
    }

    public int total(int k) throws IllegalArgumentException, IllegalStateException {
        if (k < 0 || k >= INPUT_WORDS) {
            throw new IllegalArgumentException();
        }
        if (server.stage != ENDED) {
            throw new IllegalStateException();
        }
        return server.sums[k];
    }

    public int phone(int u, int what) throws IllegalArgumentException {
        if (!isInRound(u) || what < 0 || what > 3) {
            throw new IllegalArgumentException();
        }
        return phones[u].tell(what);
    }

    public int count(int what) {
        return what == 0 ? mail.size : server.tell(what);
    }

    public int stream(int low, int high, int a, int b, int k) throws IllegalArgumentException {
        if (k < 0 || k >= STREAM_WORDS) {
            throw new IllegalArgumentException();
        }
        return crypto.streamBlock(Numbers.ofWords(low, high), a, b, k / BLOCK_WORDS)[k % BLOCK_WORDS];
    }

    private boolean isInRound(int u) {
        return u >= 0 && u < server.size;
    }

    private static boolean isNamed(int names, int u) {
        return (names >>> u & 1) != 0;
    }

    /** Arithmetic modulo P = 2^61 - 1; every number is held as 0 .. P - 1. */
    private static final class Numbers {
        static final long P = 2305843009213693951L;
        static final long BASE = 37;
        private static final int P_BITS = 61;
        private static final int HALF_BITS = 31;
        private static final long HALF_MASK = (1L << HALF_BITS) - 1;
        private static final int UPPER_BITS = P_BITS - HALF_BITS;
        private static final long UPPER_MASK = (1L << UPPER_BITS) - 1;

        private Numbers() {
        }

        static long ofWords(int low, int high) {
            long bits = (long) high << 32 | low & 0xffffffffL;
            return fold(bits & P);
        }

        static long read(int[] words, int at) {
            return ofWords(words[at], words[at + 1]);
        }

        static void write(long x, int[] words, int at) {
            words[at] = (int) x;
            words[at + 1] = (int) (x >>> 32);
        }

        /** Any 64 bits, without a sign, modulo P: 2^61 is 1 there. */
        private static long fold(long x) {
            long once = (x & P) + (x >>> P_BITS);
            return once >= P ? once - P : once;
        }

        static long plus(long x, long y) {
            return fold(x + y);
        }

        static long minus(long x, long y) {
            return fold(x + P - y);
        }

        /** By halves, as the whole product has up to 122 bits: 2^62 counts 2, and 2^61 counts 1. */
        static long times(long x, long y) {
            long xHigh = x >>> HALF_BITS;
            long xLow = x & HALF_MASK;
            long yHigh = y >>> HALF_BITS;
            long yLow = y & HALF_MASK;
            long middle = xHigh * yLow + xLow * yHigh;
            long middlePart = (middle >>> UPPER_BITS) + ((middle & UPPER_MASK) << HALF_BITS);
            return fold(2 * xHigh * yHigh + middlePart + xLow * yLow);
        }

        static long power(long x, long exponent) {
            long result = 1;
            long square = x;
            for (int bit = 0; bit < P_BITS; bit++) {
                if ((exponent >>> bit & 1) != 0) {
                    result = times(result, square);
                }
                square = times(square, square);
            }
            return result;
        }
    }

    /** Sharing a secret by a polynomial: phone v holds its value at v + 1. */
    private static final class Sharing {
        private Sharing() {
        }

        /** The value at v + 1; the coefficients are pairs of words, that of the power 1 first. */
        static long share(long constant, int[] coefficients, int threshold, int v) {
            long value = 0;
            for (int power = threshold - 1; power >= 1; power--) {
                long coefficient = Numbers.read(coefficients, 2 * (power - 1));
                value = Numbers.times(Numbers.plus(value, coefficient), v + 1);
            }
            return Numbers.plus(value, constant);
        }

        /** The constant, by Lagrange, from the holders' shares: two words of each one's row, at the same place. */
        static long join(int[][] rows, int at, int holders) {
            long constant = 0;
            for (int v = 0; v < MOST_PHONES; v++) {
                if (isNamed(holders, v)) {
                    long above = Numbers.read(rows[v], at);
                    long below = 1;
                    for (int w = 0; w < MOST_PHONES; w++) {
                        if (w != v && isNamed(holders, w)) {
                            above = Numbers.times(above, w + 1);
                            below = Numbers.times(below, Numbers.minus(w + 1, v + 1));
                        }
                    }
                    // To divide is to multiply by the power P - 2, as P is prime.
                    constant = Numbers.plus(constant, Numbers.times(above, Numbers.power(below, Numbers.P - 2)));
                }
            }
            return constant;
        }
    }

    /** The ChaCha20 block function of RFC 8439, with keys whose last six words are 0. */
    private static final class ChaCha {
        private static final int ROUNDS = 20;

        private final int[] state = new int[BLOCK_WORDS];
        private final int[] block = new int[BLOCK_WORDS];

        /** The block's words; the row is used again by the next call. */
        int[] makeBlock(long key, int counter, int a, int b, int c) {
            state[0] = 0x61707865;
            state[1] = 0x3320646e;
            state[2] = 0x79622d32;
            state[3] = 0x6b206574;
            Numbers.write(key, state, 4);
            state[12] = counter;
            state[13] = a;
            state[14] = b;
            state[15] = c;
            System.arraycopy(state, 0, block, 0, BLOCK_WORDS);
            for (int round = 0; round < ROUNDS; round++) {
                // Rounds go down the columns and along the diagonals in turn.
                int turn = round % 2;
                for (int i = 0; i < 4; i++) {
                    quarterRound(i, 4 + (i + turn) % 4, 8 + (i + 2 * turn) % 4, 12 + (i + 3 * turn) % 4);
                }
            }
            for (int i = 0; i < BLOCK_WORDS; i++) {
                block[i] += state[i];
            }
            return block;
        }

        private void quarterRound(int a, int b, int c, int d) {
            block[a] += block[b];
            block[d] = Integer.rotateLeft(block[d] ^ block[a], 16);
            block[c] += block[d];
            block[b] = Integer.rotateLeft(block[b] ^ block[c], 12);
            block[a] += block[b];
            block[d] = Integer.rotateLeft(block[d] ^ block[a], 8);
            block[c] += block[d];
            block[b] = Integer.rotateLeft(block[b] ^ block[c], 7);
        }
    }

    /** Poly1305 of RFC 8439 over whole blocks of four words, in five limbs of 26 bits. */
    private static final class Poly1305 {
        private static final int LIMBS = 5;
        private static final int LIMB_BITS = 26;
        private static final long LIMB_MASK = (1L << LIMB_BITS) - 1;
        private static final long BLOCK_END = 1L << 24;

        private final long[] factor = new long[LIMBS];
        private final long[] sum = new long[LIMBS];
        private final long[] work = new long[LIMBS];
        private final int[] pad = new int[4];
        final int[] tag = new int[4];

        void begin(int[] key) {
            Arrays.fill(factor, 0);
            addLimbs(factor, key[0] & 0x0fffffff, key[1] & 0x0ffffffc, key[2] & 0x0ffffffc, key[3] & 0x0ffffffc);
            Arrays.fill(sum, 0);
            System.arraycopy(key, 4, pad, 0, 4);
        }

        void addBlock(int w0, int w1, int w2, int w3) {
            addLimbs(sum, w0, w1, w2, w3);
            sum[4] += BLOCK_END;
            multiply();
            carry();
        }

        private static void addLimbs(long[] limbs, int w0, int w1, int w2, int w3) {
            long low = (long) w1 << 32 | w0 & 0xffffffffL;
            long high = (long) w3 << 32 | w2 & 0xffffffffL;
            limbs[0] += low & LIMB_MASK;
            limbs[1] += low >>> 26 & LIMB_MASK;
            limbs[2] += (low >>> 52 | high << 12) & LIMB_MASK;
            limbs[3] += high >>> 14 & LIMB_MASK;
            limbs[4] += high >>> 40;
        }

        /** 2^130 counts 5, so a limb that passes the top comes back five times below. */
        private void multiply() {
            for (int i = 0; i < LIMBS; i++) {
                long limb = 0;
                for (int j = 0; j < LIMBS; j++) {
                    limb += j <= i ? sum[j] * factor[i - j] : 5 * sum[j] * factor[LIMBS + i - j];
                }
                work[i] = limb;
            }
            System.arraycopy(work, 0, sum, 0, LIMBS);
        }

        /** Leaves every limb but the second with its 26 bits, and that with little more. */
        private void carry() {
            long over = carryUp();
            sum[0] += 5 * over;
            sum[1] += sum[0] >>> LIMB_BITS;
            sum[0] &= LIMB_MASK;
        }

        /** Leaves every limb with its 26 bits: what passed the top. */
        private long carryUp() {
            long over = 0;
            for (int i = 0; i < LIMBS; i++) {
                sum[i] += over;
                over = sum[i] >>> LIMB_BITS;
                sum[i] &= LIMB_MASK;
            }
            return over;
        }

        /** Leaves the tag of the blocks in its row. */
        void finish() {
            // Once more is enough: if anything passes the top again, the limbs above the first are next to 0.
            carry();
            if (reachesPrime()) {
                // To take 2^130 - 5 off is to add 5 and drop what passes the top.
                sum[0] += 5;
                carryUp();
            }
            long carried = 0;
            for (int i = 0; i < 4; i++) {
                carried += (sumWord(i) & 0xffffffffL) + (pad[i] & 0xffffffffL);
                tag[i] = (int) carried;
                carried >>>= 32;
            }
        }

        private boolean reachesPrime() {
            return sum[0] >= LIMB_MASK - 4 && sum[1] == LIMB_MASK && sum[2] == LIMB_MASK
                    && sum[3] == LIMB_MASK && sum[4] == LIMB_MASK;
        }

        private int sumWord(int i) {
            int shift = 6 * i;
            return (int) (sum[i] >>> shift | sum[i + 1] << LIMB_BITS - shift);
        }
    }

    /** Streams, masks and boxes. */
    private static final class Crypto {
        private static final int STREAM_NONCE = 0;
        private static final int BOX_NONCE = 1;
        private static final int TEXT_WORDS = 4;
        private static final int TEXT_BYTES = 16;

        private final ChaCha cipher = new ChaCha();
        private final Poly1305 mac = new Poly1305();

        /** Words 16 * counter on of a STREAM; the row is used again by the next call of any method here. */
        int[] streamBlock(long v, int a, int b, int counter) {
            return cipher.makeBlock(v, counter, a, b, STREAM_NONCE);
        }

        /** Adds the mask of a STREAM to the first words of a row, or takes it off. */
        void addMask(int[] words, boolean add, long v, int a, int b) {
            int[] mask = cipher.makeBlock(v, 0, a, b, STREAM_NONCE);
            for (int i = 0; i < INPUT_WORDS; i++) {
                words[i] += add ? mask[i] : -mask[i];
            }
        }

        /** Seals the text in words at .. at + 3 where it stands, with the tag behind it. */
        void seal(long v, int a, int b, int[] words, int at) {
            int[] pad = cipher.makeBlock(v, 1, a, b, BOX_NONCE);
            for (int i = 0; i < TEXT_WORDS; i++) {
                words[at + i] ^= pad[i];
            }
            makeTag(v, a, b, words, at);
            System.arraycopy(mac.tag, 0, words, at + TEXT_WORDS, TEXT_WORDS);
        }

        /** Whether the box in words at .. at + 7 could be opened; if so its text is in the row text. */
        boolean open(long v, int a, int b, int[] words, int at, int[] text) {
            makeTag(v, a, b, words, at);
            for (int i = 0; i < TEXT_WORDS; i++) {
                if (mac.tag[i] != words[at + TEXT_WORDS + i]) {
                    return false;
                }
            }
            int[] pad = cipher.makeBlock(v, 1, a, b, BOX_NONCE);
            for (int i = 0; i < TEXT_WORDS; i++) {
                text[i] = words[at + i] ^ pad[i];
            }
            return true;
        }

        private void makeTag(long v, int a, int b, int[] words, int at) {
            mac.begin(cipher.makeBlock(v, 0, a, b, BOX_NONCE));
            mac.addBlock(words[at], words[at + 1], words[at + 2], words[at + 3]);
            mac.addBlock(0, 0, TEXT_BYTES, 0);
            mac.finish();
        }
    }

    /** A message of a phone, or the server's answer to it. */
    private static final class Message {
        static final int HEAD_WORDS = 4;

        final int stage;
        final int party;
        final boolean fromServer;
        final int[] words;

        Message(int stage, int party, boolean fromServer, int length) {
            this.stage = stage;
            this.party = party;
            this.fromServer = fromServer;
            this.words = new int[length];
        }

        int tell(int what) {
            switch (what) {
                case 0:
                    return stage;
                case 1:
                    return party;
                case 2:
                    return fromServer ? 1 : 0;
                case 3:
                    return words.length;
                default:
                    return words[what - HEAD_WORDS];
            }
        }
    }

    /**
     * The messages on their way, the oldest first. In a round a phone sends, and gets, at most one
     * message of a stage, so each has a place of its own.
     */
    private static final class Mail {
        private static final int PLACES = SENT_STAGES + ANSWERED_STAGES;

        private final Message[] places = new Message[MOST_PHONES * PLACES];
        private final int[] queue = new int[MOST_PHONES * PLACES];
        int size;

        Mail() {
            for (int u = 0; u < MOST_PHONES; u++) {
                for (int stage = 0; stage < SENT_STAGES; stage++) {
                    places[u * PLACES + stage] = new Message(stage, u, false, SENT_WORDS[stage]);
                }
                for (int stage = 0; stage < ANSWERED_STAGES; stage++) {
                    places[u * PLACES + SENT_STAGES + stage] = new Message(stage, u, true, ANSWER_WORDS[stage]);
                }
            }
        }

        void clear() {
            size = 0;
        }

        boolean has(int k) {
            return k >= 0 && k < size;
        }

        Message get(int k) {
            return places[queue[k]];
        }

        Message remove(int k) {
            Message removed = get(k);
            size--;
            System.arraycopy(queue, k + 1, queue, k, size - k);
            return removed;
        }

        /** Puts phone u's message of a stage on its way: its words, for the sender to write all of them. */
        int[] post(int u, int stage) {
            return append(u * PLACES + stage);
        }

        /** As post, for the server's answer to phone u. */
        int[] postAnswer(int u, int stage) {
            return append(u * PLACES + SENT_STAGES + stage);
        }

        private int[] append(int place) {
            if (size < queue.length) {
                queue[size] = place;
                size++;
            }
            return places[place].words;
        }
    }

    /** A phone; what it knows of the others it has from the answers that it took. */
    private static final class Phone {
        private static final int SEED_TEXT = 0;
        private static final int MASK_KEY_TEXT = 2;

        private final int number;
        final long[] secrets = new long[SECRETS];
        final int[] inputs = new int[INPUT_WORDS];
        private final long[] seedShares = new long[MOST_PHONES];
        private final long[] maskKeyShares = new long[MOST_PHONES];
        private final int[] named = new int[ANSWERED_STAGES];
        private final int[] keys = new int[1 + KEY_WORDS * MOST_PHONES];
        private final int[] boxes = new int[1 + BOX_WORDS * MOST_PHONES];
        private final int[] text = new int[Crypto.TEXT_WORDS];
        int sent;
        private int taken;
        private int seedsGiven;
        private int maskKeysGiven;

        Phone(int number) {
            this.number = number;
        }

        void begin() {
            sent = 0;
            taken = 0;
            seedsGiven = 0;
            maskKeysGiven = 0;
        }

        int tell(int what) {
            switch (what) {
                case 0:
                    return sent;
                case 1:
                    return taken;
                case 2:
                    return seedsGiven;
                default:
                    return maskKeysGiven;
            }
        }

        boolean takeAnswer(Message answer, int size, int threshold) {
            int stage = answer.stage;
            int names = answer.words[0];
            if (stage != sent - 1 || stage != taken || !areGood(names, stage, size, threshold)) {
                return false;
            }
            named[stage] = names;
            if (stage == STAGE_KEYS) {
                System.arraycopy(answer.words, 0, keys, 0, keys.length);
            } else if (stage == STAGE_BOXES) {
                System.arraycopy(answer.words, 0, boxes, 0, boxes.length);
            }
            taken++;
            return true;
        }

        private boolean areGood(int names, int stage, int size, int threshold) {
            if (names >>> size != 0 || Integer.bitCount(names) < threshold) {
                return false;
            }
            if (stage != STAGE_MASKED && !isNamed(names, number)) {
                return false;
            }
            return stage == STAGE_KEYS || (names & ~named[stage - 1]) == 0;
        }

        boolean sendNext(Mail mail, Crypto crypto, int threshold) {
            if (sent != taken || sent >= SENT_STAGES) {
                return false;
            }
            int[] words = mail.post(number, sent);
            switch (sent) {
                case STAGE_KEYS:
                    writeKeys(words);
                    break;
                case STAGE_BOXES:
                    makeShares(crypto, threshold);
                    writeBoxes(words, crypto);
                    break;
                case STAGE_MASKED:
                    writeMasked(words, crypto);
                    break;
                default:
                    writeShares(words, crypto);
                    break;
            }
            sent++;
            return true;
        }

        private void writeKeys(int[] words) {
            Numbers.write(Numbers.power(Numbers.BASE, secrets[MASK_KEY]), words, 0);
            Numbers.write(Numbers.power(Numbers.BASE, secrets[BOX_KEY]), words, 2);
        }

        private void makeShares(Crypto crypto, int threshold) {
            int[] coefficients = crypto.streamBlock(secrets[SEED], MASK_KEY_SHARES, number, 0);
            for (int v = 0; v < MOST_PHONES; v++) {
                maskKeyShares[v] = Sharing.share(secrets[MASK_KEY], coefficients, threshold, v);
            }
            coefficients = crypto.streamBlock(secrets[SEED], SEED_SHARES, number, 0);
            for (int v = 0; v < MOST_PHONES; v++) {
                seedShares[v] = Sharing.share(secrets[SEED], coefficients, threshold, v);
            }
        }

        private void writeBoxes(int[] words, Crypto crypto) {
            Arrays.fill(words, 0);
            for (int v = 0; v < MOST_PHONES; v++) {
                if (v != number && isNamed(named[STAGE_KEYS], v)) {
                    int at = BOX_WORDS * v;
                    Numbers.write(seedShares[v], words, at + SEED_TEXT);
                    Numbers.write(maskKeyShares[v], words, at + MASK_KEY_TEXT);
                    crypto.seal(agreed(v, BOX_KEY), number, v, words, at);
                }
            }
        }

        private void writeMasked(int[] words, Crypto crypto) {
            System.arraycopy(inputs, 0, words, 0, INPUT_WORDS);
            crypto.addMask(words, true, secrets[SEED], PRIVATE_MASK, number);
            for (int v = 0; v < MOST_PHONES; v++) {
                if (v != number && isNamed(named[STAGE_BOXES], v)) {
                    crypto.addMask(words, v > number, agreed(v, MASK_KEY), PAIRWISE_MASK, 0);
                }
            }
        }

        private void writeShares(int[] words, Crypto crypto) {
            Arrays.fill(words, 0);
            for (int v = 0; v < MOST_PHONES; v++) {
                if (v == number) {
                    Numbers.write(seedShares[v], text, SEED_TEXT);
                    Numbers.write(maskKeyShares[v], text, MASK_KEY_TEXT);
                    giveShare(words, v);
                } else if (isNamed(named[STAGE_BOXES], v)
                        && crypto.open(agreed(v, BOX_KEY), v, number, boxes, 1 + BOX_WORDS * v, text)) {
                    giveShare(words, v);
                }
            }
            words[0] = seedsGiven | maskKeysGiven;
        }

        /** Of the shares in the row text it gives one alone: with both, the server could bare phone v's input. */
        private void giveShare(int[] words, int v) {
            if (isNamed(named[STAGE_MASKED], v)) {
                seedsGiven |= 1 << v;
                System.arraycopy(text, SEED_TEXT, words, 1 + 2 * v, 2);
            } else {
                maskKeysGiven |= 1 << v;
                System.arraycopy(text, MASK_KEY_TEXT, words, 1 + 2 * v, 2);
            }
        }

        private long agreed(int v, int key) {
            return Numbers.power(Numbers.read(keys, 1 + KEY_WORDS * v + 2 * key), secrets[key]);
        }
    }

    /** The server, and how far the round is. */
    private static final class Server {
        int size;
        int threshold;
        int stage = FAILED;
        private int reason;
        private int heard;
        private final int[] named = new int[ANSWERED_STAGES];
        private final int[][] keys = new int[MOST_PHONES][KEY_WORDS];
        private final int[][] boxes = new int[MOST_PHONES][BOX_WORDS * MOST_PHONES];
        private final int[][] masked = new int[MOST_PHONES][INPUT_WORDS];
        private final int[][] shares = new int[MOST_PHONES][1 + 2 * MOST_PHONES];
        final int[] sums = new int[INPUT_WORDS];

        void begin(int n, int t) {
            size = n;
            threshold = t;
            stage = STAGE_KEYS;
            reason = 0;
            heard = 0;
            Arrays.fill(named, 0);
        }

        boolean isOpen() {
            return stage <= STAGE_SHARES;
        }

        int tell(int what) {
            switch (what) {
                case 1:
                    return stage;
                case 2:
                    return reason;
                case 3:
                case 4:
                case 5:
                    return named[what - 3];
                case 6:
                    return heard;
                default:
                    return -1;
            }
        }

        boolean hear(Message arrived) {
            int u = arrived.party;
            if (arrived.stage != stage || isNamed(heard, u) || !isAwaited(u)) {
                return false;
            }
            int[] kept = rowFor(u);
            System.arraycopy(arrived.words, 0, kept, 0, kept.length);
            heard |= 1 << u;
            return true;
        }

        private boolean isAwaited(int u) {
            switch (stage) {
                case STAGE_KEYS:
                    return true;
                case STAGE_BOXES:
                    return isNamed(named[STAGE_KEYS], u);
                default:
                    return isNamed(named[STAGE_BOXES], u);
            }
        }

        /** Where the words of phone u in the stage that is open are kept. */
        private int[] rowFor(int u) {
            switch (stage) {
                case STAGE_KEYS:
                    return keys[u];
                case STAGE_BOXES:
                    return boxes[u];
                case STAGE_MASKED:
                    return masked[u];
                default:
                    return shares[u];
            }
        }

        void closeStage(Mail mail, Crypto crypto) {
            if (Integer.bitCount(heard) < threshold) {
                fail(1 + stage);
            } else if (stage < STAGE_SHARES) {
                named[stage] = heard;
                answerAll(mail);
                heard = 0;
                stage++;
            } else if (unmask(crypto)) {
                stage = ENDED;
            } else {
                fail(TOO_FEW_SHARES);
            }
        }

        private void fail(int why) {
            stage = FAILED;
            reason = why;
        }

        private void answerAll(Mail mail) {
            int answered = stage == STAGE_MASKED ? named[STAGE_BOXES] : named[stage];
            for (int u = 0; u < MOST_PHONES; u++) {
                if (isNamed(answered, u)) {
                    int[] words = mail.postAnswer(u, stage);
                    Arrays.fill(words, 0);
                    words[0] = named[stage];
                    if (stage == STAGE_KEYS) {
                        writeKeys(words);
                    } else if (stage == STAGE_BOXES) {
                        writeBoxes(words, u);
                    }
                }
            }
        }

        private void writeKeys(int[] words) {
            for (int v = 0; v < MOST_PHONES; v++) {
                if (isNamed(named[STAGE_KEYS], v)) {
                    System.arraycopy(keys[v], 0, words, 1 + KEY_WORDS * v, KEY_WORDS);
                }
            }
        }

        private void writeBoxes(int[] words, int u) {
            for (int v = 0; v < MOST_PHONES; v++) {
                if (v != u && isNamed(named[STAGE_BOXES], v)) {
                    System.arraycopy(boxes[v], BOX_WORDS * u, words, 1 + BOX_WORDS * v, BOX_WORDS);
                }
            }
        }

        /** Whether there were shares enough; if so the sums are the total. */
        private boolean unmask(Crypto crypto) {
            Arrays.fill(sums, 0);
            for (int u = 0; u < MOST_PHONES; u++) {
                if (isNamed(named[STAGE_BOXES], u)) {
                    int holders = lowestHolders(u);
                    if (Integer.bitCount(holders) < threshold) {
                        return false;
                    }
                    long secret = Sharing.join(shares, 1 + 2 * u, holders);
                    if (isNamed(named[STAGE_MASKED], u)) {
                        addMasked(u);
                        crypto.addMask(sums, false, secret, PRIVATE_MASK, u);
                    } else {
                        takePairsOff(u, secret, crypto);
                    }
                }
            }
            return true;
        }

        /** The lowest phones heard that had phone u's share, as many as are needed if there are so many. */
        private int lowestHolders(int u) {
            int holders = 0;
            for (int v = 0; v < MOST_PHONES; v++) {
                boolean had = isNamed(heard, v) && isNamed(shares[v][0], u);
                if (had && Integer.bitCount(holders) < threshold) {
                    holders |= 1 << v;
                }
            }
            return holders;
        }

        private void addMasked(int u) {
            for (int i = 0; i < INPUT_WORDS; i++) {
                sums[i] += masked[u][i];
            }
        }

        /** What the phones whose words came had put on them for phone u, whose words did not. */
        private void takePairsOff(int u, long maskKey, Crypto crypto) {
            for (int v = 0; v < MOST_PHONES; v++) {
                if (isNamed(named[STAGE_MASKED], v)) {
                    long agreed = Numbers.power(Numbers.read(keys[v], 2 * MASK_KEY), maskKey);
                    crypto.addMask(sums, u < v, agreed, PAIRWISE_MASK, 0);
                }
            }
        }
    }
}
