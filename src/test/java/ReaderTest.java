import java.util.Random;

/** Reads the bytes of slices by an arithmetic decoder, and compares what they say with what the coder answers. */
final class ReaderTest {
    private static final int[] ROW = {0, 1, 4, 8, 5, 2, 3, 6, 9, 12, 13, 10, 7, 11, 14, 15};

    private final BlockCast cast;
    private final int picture;
    private final int slice;
    private final int tools;
    private final int slices;
    private final String name;

    private final int[] chances = new int[80];
    private long value = 0;
    private long width = 4294967295L;
    private int next = 0;

    private ReaderTest(BlockCast cast, int picture, int slice, int tools, int slices, String name) {
        this.cast = cast;
        this.picture = picture;
        this.slice = slice;
        this.tools = tools;
        this.slices = slices;
        this.name = name + ", picture " + picture + ", slice " + slice;
        java.util.Arrays.fill(chances, 1024);
        for (int i = 0; i < 4; i++) {
            value = value * 256 + cast.byteAt(picture, slice, next++);
        }
    }

    public static void main(String[] args) {
        for (int seed = 0; seed < 60; seed++) {
            readRun(seed);
        }
        Check.end("ReaderTest");
    }

    private static void readRun(int seed) {
        Random random = new Random(seed);
        BlockCast cast = new BlockCast();
        for (int picture = 0; picture < 12; picture++) {
            if (random.nextInt(3) == 0) {
                cast.slope(random.nextInt(256), random.nextInt(21) - 10, random.nextInt(21) - 10);
            }
            if (random.nextInt(3) == 0) {
                int x = random.nextInt(16);
                int y = random.nextInt(16);
                cast.fill(x, y, 1 + random.nextInt(16 - x), 1 + random.nextInt(16 - y), random.nextInt(256));
            }
            cast.move(random.nextInt(7) - 3, random.nextInt(7) - 3);
            cast.grain(random.nextInt(), 1 + random.nextInt(random.nextInt(4) == 0 ? 99 : 5));
            int tools = random.nextInt(8);
            int slices = 1 + random.nextInt(2);
            cast.setTools(tools);
            cast.setSlices(slices);
            cast.setCoarseness(1 + random.nextInt(random.nextBoolean() ? 40 : 3));
            int kept = cast.kept();
            char kind = kept == 0 ? 'i' : "ippbbb".charAt(random.nextInt(6));
            cast.code(kind, random.nextInt(Math.max(1, kept)), random.nextInt(Math.max(1, kept)));
            for (int slice = 0; slice < slices; slice++) {
                new ReaderTest(cast, picture, slice, tools, slices, "run " + seed).readSlice(kind);
            }
        }
    }

    private int bit(int context) {
        long bound = width / 2048 * chances[context];
        int bit = value < bound ? 0 : 1;
        if (bit == 0) {
            width = bound;
            chances[context] += (2048 - chances[context]) / 32;
        } else {
            value -= bound;
            width -= bound;
            chances[context] -= chances[context] / 32;
        }
        refill();
        return bit;
    }

    private int plain() {
        width /= 2;
        int bit = value < width ? 0 : 1;
        value -= bit * width;
        refill();
        return bit;
    }

    private void refill() {
        while (width < 16777216) {
            width *= 256;
            value = value * 256 + cast.byteAt(picture, slice, next++);
        }
    }

    private int number(int context) {
        int n = 0;
        while (n < 12 && bit(context + Math.min(n, 5)) == 1) {
            n++;
        }
        if (n < 12) {
            return n;
        }
        int halvings = 0;
        while (plain() == 1) {
            halvings++;
        }
        int m = 1;
        for (int i = 0; i < halvings; i++) {
            m = 2 * m + plain();
        }
        return m + 11;
    }

    private int signed(int context) {
        int size = number(context);
        return size != 0 && plain() == 1 ? -size : size;
    }

    private void readSlice(char kind) {
        int[][] last = new int[2][2];
        for (int block = 0; block < 4; block++) {
            if (slices == 2 && block / 2 != slice) {
                continue;
            }
            boolean isSplit = tools % 2 == 1 && bit(0) == 1;
            for (int i = 0; i < (isSplit ? 4 : 1); i++) {
                int x = block % 2 * 8 + i % 2 * 4;
                int y = block / 2 * 8 + i / 2 * 4;
                int n = isSplit ? 4 : 8;
                Check.due(name + ": part", () -> cast.partAt(picture, x + n - 1, y + n - 1), n);
                readMode(kind, x, y, last);
                for (int square = 0; square < n * n / 16; square++) {
                    readSquare(x + square % 2 * 4, y + square / 2 * 4);
                }
            }
        }
        Check.due(name + ": all bytes are read", () -> next, cast.bytes(picture, slice));
    }

    private void readMode(char kind, int x, int y, int[][] last) {
        int mode;
        if (kind != 'i' && bit(1) == 1) {
            mode = kind == 'p' ? 4 : bit(2) == 1 ? 6 : 4 + bit(3);
        } else if (bit(4) == 1) {
            mode = 2 + bit(6);
        } else {
            mode = bit(5);
        }
        int read = mode;
        Check.due(name + ": mode", () -> cast.modeAt(picture, x, y), read);
        for (int i = 0; i < 2; i++) {
            boolean isSecond = i == 1;
            if (mode == 6 || mode == 4 + i) {
                last[i][0] += signed(8);
                last[i][1] += signed(8);
                int vector = 100 * (last[i][0] + 8) + last[i][1] + 8;
                Check.due(name + ": vector", () -> cast.vectorAt(picture, x, y, isSecond), vector);
            } else {
                Check.missing(name + ": vector", () -> cast.vectorAt(picture, x, y, isSecond));
            }
        }
    }

    private void readSquare(int x, int y) {
        int[] levels = new int[16];
        if (bit(7) == 1) {
            int t = 1;
            for (int i = 0; i < 4; i++) {
                t = 2 * t + bit(32 + t);
            }
            int last = t - 16;
            for (int i = last; i >= 0; i--) {
                if (i == last || bit(48 + i) == 1) {
                    int sign = plain();
                    int size = number(64) + 1;
                    levels[ROW[i]] = sign == 1 ? -size : size;
                }
            }
        }
        for (int i = 0; i < 16; i++) {
            int place = i;
            Check.due(name + ": level", () -> cast.levelAt(picture, x + place % 4, y + place / 4), levels[i]);
        }
    }
}
