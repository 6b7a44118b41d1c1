import java.math.BigInteger;
import java.util.HashMap;
import java.util.Map;

/** The arithmetic coder of the document for bits that a test lists by hand. */
final class Bits {
    private BigInteger low = BigInteger.ZERO;
    private long width = 4294967295L;
    private int length = 0;
    private final Map<Integer, Integer> chances = new HashMap<>();

    /** Bits in their contexts: a context, a bit, the next context and so on. */
    Bits in(int... contextsAndBits) {
        for (int i = 0; i < contextsAndBits.length; i += 2) {
            int context = contextsAndBits[i];
            int c = chances.getOrDefault(context, 1024);
            long bound = width / 2048 * c;
            if (contextsAndBits[i + 1] == 0) {
                chances.put(context, c + (2048 - c) / 32);
                narrow(0, bound);
            } else {
                chances.put(context, c - c / 32);
                narrow(bound, width - bound);
            }
        }
        return this;
    }

    /** The same bits several times. */
    Bits times(int count, int... contextsAndBits) {
        for (int i = 0; i < count; i++) {
            in(contextsAndBits);
        }
        return this;
    }

    /** Plain bits, as a text of the signs 0 and 1. */
    Bits plain(String bits) {
        for (char bit : bits.toCharArray()) {
            narrow(bit == '1' ? width / 2 : 0, width / 2);
        }
        return this;
    }

    /** A number of 11 or less in a context: so many times "it is greater", and once that it is not. */
    Bits small(int context, int n) {
        for (int j = 0; j < n; j++) {
            in(context + Math.min(j, 5), 1);
        }
        return in(context + Math.min(n, 5), 0);
    }

    /** A number of 12 or more in a context, whose plain bits are given. */
    Bits large(int context, String plain) {
        for (int j = 0; j <= 11; j++) {
            in(context + Math.min(j, 5), 1);
        }
        return plain(plain);
    }

    private void narrow(long added, long newWidth) {
        low = low.add(BigInteger.valueOf(added));
        width = newWidth;
        while (width < 16777216) {
            low = low.shiftLeft(8);
            width *= 256;
            length++;
        }
    }

    /** The bytes, as texts with a blank behind each. */
    String bytes() {
        StringBuilder text = new StringBuilder();
        for (int i = length + 3; i >= 0; i--) {
            text.append(low.shiftRight(8 * i).intValue() & 255).append(' ');
        }
        return text.toString();
    }
}
