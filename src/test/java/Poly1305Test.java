import java.lang.reflect.Constructor;
import java.lang.reflect.Field;
import java.lang.reflect.Method;
import java.math.BigInteger;
import java.util.Arrays;

/**
 * The tags of boxes (promises 5 and 6) where sums touch 2^130 - 5: no box of a run comes there by chance,
 * so the class inside is asked by itself, with the vectors 7 to 13 of RFC 8439, A.3, and some more.
 */
public final class Poly1305Test {
    private static final Checks CHECKS = new Checks();
    private static final int[] ONES = {-1, -1, -1, -1};
    private static final int[] NONE = {0, 0, 0, 0};

    public static void main(String[] args) throws ReflectiveOperationException {
        int[] two = {2, 0, 0, 0};
        int[] one = {1, 0, 0, 0};
        int[] wide = {1, 0, 4, 0};
        tag("7", two, NONE, ONES, 3, 0, 0, 0);
        tag("8", two, ONES, new int[] {2, 0, 0, 0}, 3, 0, 0, 0);
        tag("9", one, NONE, join(ONES, new int[] {0xfffffff0, -1, -1, -1, 0x11, 0, 0, 0}), 5, 0, 0, 0);
        int[] minusFive = {0xfefefefb, 0xfefefefe, 0xfefefefe, 0xfefefefe, 0x01010101, 0x01010101, 0x01010101, 0x01010101};
        tag("10", one, NONE, join(ONES, minusFive), 0, 0, 0, 0);
        tag("11", two, NONE, new int[] {0xfffffffd, -1, -1, -1}, 0xfffffffa, -1, -1, -1);
        int[] three = {0xd79435e3, 0xb9435e50, 0, 0, 0x50d79433, 0xcd79435e, 1, 0, 0, 0, 0, 0};
        tag("12", wide, NONE, join(three, one), 0x14, 0, 0x55, 0);
        tag("13", wide, NONE, three, 0x13, 0, 0, 0);
        roundThePrime();
        CHECKS.end();
    }

    /** With r = 1 the tag is the sum of the blocks, each with 2^128 above it, modulo 2^130 - 5. */
    private static void roundThePrime() throws ReflectiveOperationException {
        BigInteger whole = BigInteger.ONE.shiftLeft(128);
        BigInteger prime = BigInteger.ONE.shiftLeft(130).subtract(BigInteger.valueOf(5));
        BigInteger least = whole.subtract(BigInteger.valueOf(4));
        for (int[] change : new int[][] {{0, 0}, {1, 0}, {3, 0}, {-1, 0}, {-1, 26}, {-1, 52}, {-1, 78}, {-1, 104}}) {
            BigInteger second = least.add(BigInteger.valueOf(change[0]).shiftLeft(change[1]));
            BigInteger sum = whole.subtract(BigInteger.ONE).add(second).add(whole).add(whole);
            int[] want = words(sum.mod(prime).mod(whole));
            String name = "of 2^130 - 5 and " + change[0] + " times 2^" + change[1];
            tag(name, new int[] {1, 0, 0, 0}, NONE, join(ONES, words(second)), want);
        }
    }

    private static int[] words(BigInteger number) {
        int[] words = new int[4];
        for (int i = 0; i < 4; i++) {
            words[i] = number.shiftRight(32 * i).intValue();
        }
        return words;
    }

    private static int[] join(int[] first, int[] second) {
        int[] both = Arrays.copyOf(first, first.length + second.length);
        System.arraycopy(second, 0, both, first.length, second.length);
        return both;
    }

    private static void tag(String name, int[] r, int[] s, int[] data, int... want)
            throws ReflectiveOperationException {
        Class<?> type = Class.forName("MaskedSum$Poly1305");
        Constructor<?> constructor = type.getDeclaredConstructor();
        constructor.setAccessible(true);
        Object mac = constructor.newInstance();
        method(type, "begin", int[].class).invoke(mac, (Object) join(join(r, s), new int[8]));
        Method addBlock = method(type, "addBlock", int.class, int.class, int.class, int.class);
        for (int at = 0; at < data.length; at += 4) {
            addBlock.invoke(mac, data[at], data[at + 1], data[at + 2], data[at + 3]);
        }
        method(type, "finish").invoke(mac);
        Field field = type.getDeclaredField("tag");
        field.setAccessible(true);
        int[] tag = (int[]) field.get(mac);
        for (int i = 0; i < 4; i++) {
            CHECKS.due("vector " + name + ", word " + i, tag[i], want[i]);
        }
    }

    private static Method method(Class<?> type, String name, Class<?>... parameters) throws ReflectiveOperationException {
        Method method = type.getDeclaredMethod(name, parameters);
        method.setAccessible(true);
        return method;
    }
}
