import java.math.BigInteger;
import java.nio.ByteBuffer;
import java.nio.ByteOrder;
import java.security.GeneralSecurityException;
import java.util.Arrays;
import java.util.List;
import javax.crypto.AEADBadTagException;
import javax.crypto.Cipher;
import javax.crypto.spec.ChaCha20ParameterSpec;
import javax.crypto.spec.IvParameterSpec;
import javax.crypto.spec.SecretKeySpec;

/** The document's terms, by the Java library's own big numbers and ciphers. */
final class Reference {
    static final BigInteger P = new BigInteger("2305843009213693951");

    private Reference() {
    }

    static BigInteger number(int low, int high) {
        BigInteger bits = BigInteger.valueOf(high & 0xffffffffL).shiftLeft(32).add(BigInteger.valueOf(low & 0xffffffffL));
        return bits.mod(BigInteger.ONE.shiftLeft(61)).mod(P);
    }

    static int low(BigInteger v) {
        return v.intValue();
    }

    static int high(BigInteger v) {
        return v.shiftRight(32).intValue();
    }

    static BigInteger publicNumber(BigInteger secret) {
        return power(BigInteger.valueOf(37), secret);
    }

    static BigInteger power(BigInteger x, BigInteger exponent) {
        return x.modPow(exponent, P);
    }

    static int[] stream(BigInteger v, int a, int b, int words) {
        try {
            Cipher cipher = Cipher.getInstance("ChaCha20");
            cipher.init(Cipher.ENCRYPT_MODE, key(v), new ChaCha20ParameterSpec(bytes(a, b, 0), 0));
            return words(cipher.doFinal(new byte[4 * words]));
        } catch (GeneralSecurityException e) {
            throw new AssertionError(e);
        }
    }

    static int[] seal(BigInteger v, int a, int b, int[] text) {
        try {
            Cipher cipher = Cipher.getInstance("ChaCha20-Poly1305");
            cipher.init(Cipher.ENCRYPT_MODE, key(v), new IvParameterSpec(bytes(a, b, 1)));
            return words(cipher.doFinal(bytes(text)));
        } catch (GeneralSecurityException e) {
            throw new AssertionError(e);
        }
    }

    /** The text of a box, or null if it can't be opened. */
    static int[] open(BigInteger v, int a, int b, int[] box) {
        try {
            Cipher cipher = Cipher.getInstance("ChaCha20-Poly1305");
            cipher.init(Cipher.DECRYPT_MODE, key(v), new IvParameterSpec(bytes(a, b, 1)));
            return words(cipher.doFinal(bytes(box)));
        } catch (AEADBadTagException e) {
            return null;
        } catch (GeneralSecurityException e) {
            throw new AssertionError(e);
        }
    }

    /** Phone v's share of a secret of phone u: w 0 the mask key, w 1 the seed. */
    static BigInteger share(BigInteger secret, BigInteger seed, int w, int u, int t, int v) {
        int[] words = stream(seed, 2 + w, u, 2 * (t - 1));
        BigInteger sum = secret;
        for (int i = 1; i < t; i++) {
            BigInteger coefficient = number(words[2 * i - 2], words[2 * i - 1]);
            sum = sum.add(coefficient.multiply(BigInteger.valueOf(v + 1).pow(i)));
        }
        return sum.mod(P);
    }

    /** The constant of the polynomial through these points, by elimination (Neville's scheme at 0). */
    static BigInteger join(List<Integer> phones, List<BigInteger> shares) {
        int size = phones.size();
        BigInteger[] at = new BigInteger[size];
        for (int i = 0; i < size; i++) {
            at[i] = shares.get(i);
        }
        for (int width = 1; width < size; width++) {
            for (int i = 0; i + width < size; i++) {
                BigInteger left = BigInteger.valueOf(phones.get(i) + 1);
                BigInteger right = BigInteger.valueOf(phones.get(i + width) + 1);
                BigInteger top = right.multiply(at[i]).subtract(left.multiply(at[i + 1]));
                at[i] = top.multiply(right.subtract(left).modInverse(P)).mod(P);
            }
        }
        return at[0];
    }

    private static SecretKeySpec key(BigInteger v) {
        return new SecretKeySpec(bytes(low(v), high(v), 0, 0, 0, 0, 0, 0), "ChaCha20");
    }

    private static byte[] bytes(int... words) {
        ByteBuffer buffer = ByteBuffer.allocate(4 * words.length).order(ByteOrder.LITTLE_ENDIAN);
        for (int word : words) {
            buffer.putInt(word);
        }
        return buffer.array();
    }

    private static int[] words(byte[] bytes) {
        ByteBuffer buffer = ByteBuffer.wrap(bytes).order(ByteOrder.LITTLE_ENDIAN);
        int[] words = new int[bytes.length / 4];
        Arrays.setAll(words, i -> buffer.getInt(4 * i));
        return words;
    }
}
