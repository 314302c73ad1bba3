import java.math.BigInteger;
import java.util.Random;

/** Promises 16 (power) and 17 (mix). */
public final class NumbersTest {
    private static final int P = Model.P;
    private static final Due DUE = new Due("NumbersTest");

    public static void main(String[] args) {
        powers();
        wrongPowers();
        theModelMixesAsOthersDo();
        mixes();
        DUE.end();
    }

    private static void powers() {
        RatchetPost x = new RatchetPost();
        DUE.is("power(0, 0)", x.power(0, 0), 1);
        DUE.is("power(0, 1)", x.power(0, 1), 0);
        DUE.is("power(0, P - 1)", x.power(0, P - 1), 0);
        DUE.is("power(1, P - 1)", x.power(1, P - 1), 1);
        DUE.is("power(9, 0)", x.power(9, 0), 1);
        DUE.is("power(9, 1)", x.power(9, 1), 9);
        DUE.is("power(2, 30)", x.power(2, 30), 1 << 30);
        DUE.is("power(2, 31)", x.power(2, 31), 1);
        DUE.is("power(P - 1, 1)", x.power(P - 1, 1), P - 1);
        DUE.is("power(P - 1, 2)", x.power(P - 1, 2), 1);
        DUE.is("power(P - 1, P - 1)", x.power(P - 1, P - 1), 1);
        DUE.is("power(7, (P - 1) / 2)", x.power(7, (P - 1) / 2), P - 1);
        Random random = new Random(16);
        for (int i = 0; i < 300; i++) {
            int b = random.nextInt(P);
            int e = random.nextInt(P) >>> random.nextInt(31);
            long want = BigInteger.valueOf(b).modPow(BigInteger.valueOf(e), BigInteger.valueOf(P)).longValue();
            DUE.is("power(" + b + ", " + e + ")", x.power(b, e), want);
        }
    }

    private static void wrongPowers() {
        RatchetPost x = new RatchetPost();
        DUE.is("power(-1, 1)", x.power(-1, 1), -1);
        DUE.is("power(1, -1)", x.power(1, -1), -1);
        DUE.is("power(P, 1)", x.power(P, 1), -1);
        DUE.is("power(1, P)", x.power(1, P), -1);
        DUE.is("power(P, 0)", x.power(P, 0), -1);
        DUE.is("power(least, 0)", x.power(Integer.MIN_VALUE, 0), -1);
        DUE.is("power(0, least)", x.power(0, Integer.MIN_VALUE), -1);
    }

    /** The block of RFC 8439, 2.3.2: the same turns are published there with their result. */
    private static void theModelMixesAsOthersDo() {
        int[] key = {0x03020100, 0x07060504, 0x0b0a0908, 0x0f0e0d0c, 0x13121110, 0x17161514, 0x1b1a1918, 0x1f1e1d1c};
        int[] want = {0xe4e7f110, 0x15593bd1, 0x1fdd0f50, 0xc47120a3, 0xc7f4d1c7, 0x0368c033, 0x9aaa2204, 0x4e6cd4c3};
        int[] got = Model.mix(key, 1, 0x09000000, 0x4a000000, 0);
        for (int i = 0; i < 8; i++) {
            DUE.is("word " + i + " of the published block", got[i], want[i]);
        }
    }

    private static void mixes() {
        RatchetPost x = new RatchetPost();
        DUE.is("mix(0, 1, 2)", x.mix(0, 1, 2), 268265624592589423L);
        Random random = new Random(17);
        for (int i = 0; i < 200; i++) {
            long wide = i == 0 ? -1 : i == 1 ? Long.MIN_VALUE : i == 2 ? 0xFFFFFFFFL : random.nextLong();
            int a = i == 3 ? Integer.MIN_VALUE : random.nextInt();
            int b = i == 4 ? -1 : random.nextInt();
            int[] k = {(int) (wide >>> 32), (int) wide, 1, 2, 3, 4, 5, 6};
            int[] key = Model.mix(k, a, b, 0, 0);
            DUE.is("upper half of mix " + i, x.mix(wide, a, b) >> 32, key[0]);
            DUE.is("lower half of mix " + i, (int) x.mix(wide, a, b), key[1]);
        }
    }
}
