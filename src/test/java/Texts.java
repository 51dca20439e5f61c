import java.nio.charset.StandardCharsets;
import java.util.Arrays;

/** Texts put on a tape as a caller does it: twenty bytes a call. */
final class Texts {
    private Texts() {
    }

    static void feed(RightsPool pool, String text) {
        byte[] bytes = text.getBytes(StandardCharsets.ISO_8859_1);
        for (int from = 0; from < bytes.length; from += 20) {
            int[] five = new int[5];
            Arrays.fill(five, 0x20202020);
            for (int k = 0; k < 20; k++) {
                int sign = from + k < bytes.length ? bytes[from + k] & 255 : 32;
                int shift = 24 - 8 * (k % 4);
                five[k / 4] = five[k / 4] & ~(255 << shift) | sign << shift;
            }
            pool.feed(five[0], five[1], five[2], five[3], five[4]);
        }
    }

    static int tell(RightsPool pool, String text) {
        feed(pool, text);
        return pool.text(text.length());
    }

    static RightsPool pool(String text) {
        RightsPool pool = new RightsPool();
        if (tell(pool, text) < 0) {
            throw new IllegalStateException("fault " + pool.fault(0) + " at " + pool.fault(1) + " of " + text);
        }
        return pool;
    }
}
