import java.math.BigInteger;
import java.util.ArrayList;
import java.util.List;
import java.util.NoSuchElementException;

/**
 * A second BlockCast, written from the document by its plainest words and with the Java library, without regard to
 * speed or to ../shared/LANGUAGE.md: ModelTest compares the two.
 */
final class Model {
    private static final class PartOf {
        int x;
        int y;
        int n;
        int mode;
        int[][] vectors = new int[2][];
    }

    private static final class Coded {
        int number;
        char kind;
        int[] places;
        int coarseness;
        int tools;
        int slices;
        boolean isKept;
        List<List<PartOf>> blocks = new ArrayList<>();
        int[][] levels = new int[16][16];
        int[][] built = new int[16][16];
        long error;
        List<byte[]> bytes = new ArrayList<>();

        int bits() {
            int sum = 0;
            for (byte[] slice : bytes) {
                sum += 8 * slice.length;
            }
            return sum;
        }

        PartOf part(int x, int y) {
            for (List<PartOf> block : blocks) {
                for (PartOf part : block) {
                    if (x >= part.x && x < part.x + part.n && y >= part.y && y < part.y + part.n) {
                        return part;
                    }
                }
            }
            throw new AssertionError();
        }
    }

    private static final class Held {
        int number;
        int[][] pixels;
        boolean isClean;
    }

    private int[][] canvas = new int[16][16];
    private int coarseness = 8;
    private int tools = 7;
    private int slices = 1;
    private boolean isKept = true;
    private boolean hasBucket = false;
    private int room;
    private int leak;
    private int fill;
    private final List<Coded> pictures = new ArrayList<>();
    private final List<Coded> kept = new ArrayList<>();
    private final List<Held> decoderKept = new ArrayList<>();
    private Held shown = null;
    private int next = 0;
    private int sent = 0;
    private int clean = 0;

    // ---- canvas

    int fill(int x, int y, int width, int height, int value) {
        boolean inside = x >= 0 && y >= 0 && width >= 1 && height >= 1
                && (long) x + width <= 16 && (long) y + height <= 16;
        if (!inside || value < 0 || value > 255) {
            throw new IllegalArgumentException();
        }
        int changed = 0;
        for (int row = y; row < y + height; row++) {
            for (int column = x; column < x + width; column++) {
                changed += canvas[row][column] == value ? 0 : 1;
                canvas[row][column] = value;
            }
        }
        return changed;
    }

    int slope(int first, int stepX, int stepY) {
        if (first < 0 || first > 255 || Math.abs((long) stepX) > 99 || Math.abs((long) stepY) > 99) {
            throw new IllegalArgumentException();
        }
        for (int y = 0; y < 16; y++) {
            for (int x = 0; x < 16; x++) {
                canvas[y][x] = Math.floorMod(first + x * stepX + y * stepY, 256);
            }
        }
        return canvas[15][15];
    }

    int grain(int seed, int size) {
        if (size < 1 || size > 99) {
            throw new IllegalArgumentException();
        }
        BigInteger number = BigInteger.valueOf(seed);
        for (int y = 0; y < 16; y++) {
            for (int x = 0; x < 16; x++) {
                number = number.multiply(BigInteger.valueOf(1103515245)).add(BigInteger.valueOf(12345));
                int upper = number.mod(BigInteger.ONE.shiftLeft(32)).shiftRight(16).intValue();
                canvas[y][x] = Math.max(0, Math.min(255, canvas[y][x] + upper % (2 * size + 1) - size));
            }
        }
        return number.intValue();
    }

    int move(int right, int down) {
        if (right < -15 || right > 15 || down < -15 || down > 15) {
            throw new IllegalArgumentException();
        }
        int[][] moved = new int[16][16];
        for (int y = 0; y < 16; y++) {
            for (int x = 0; x < 16; x++) {
                moved[y][x] = canvas[Math.floorMod(y - down, 16)][Math.floorMod(x - right, 16)];
            }
        }
        canvas = moved;
        return canvas[0][0];
    }

    int pixel(int x, int y) {
        lookAtPixel(x, y);
        return canvas[y][x];
    }

    // ---- settings

    int setCoarseness(int value) {
        refuse(value < 1 || value > 40);
        int before = coarseness;
        coarseness = value;
        return before;
    }

    int setTools(int value) {
        refuse(value < 0 || value > 7);
        int before = tools;
        tools = value;
        return before;
    }

    int setSlices(int value) {
        refuse(value != 1 && value != 2);
        int before = slices;
        slices = value;
        return before;
    }

    boolean setKept(boolean value) {
        boolean before = isKept;
        isKept = value;
        return before;
    }

    int setBucket(int newRoom, int newLeak) {
        refuse(newRoom < 0 || newRoom > 99999 || newLeak < 0 || newLeak > 99999);
        int before = hasBucket ? fill : -1;
        hasBucket = newRoom > 0;
        room = newRoom;
        leak = newLeak;
        fill = 0;
        return before;
    }

    // ---- coding

    int code(char kind, int first, int second) {
        refuse("ipb".indexOf(kind) < 0);
        boolean noFirst = first < 0 || first >= kept.size();
        boolean noSecond = second < 0 || second >= kept.size();
        if ((kind == 'p' && noFirst) || (kind == 'b' && (noFirst || noSecond))) {
            throw new IndexOutOfBoundsException();
        }
        if (pictures.size() == 12) {
            throw new IllegalStateException();
        }
        Coded made = new Coded();
        made.number = pictures.size();
        made.kind = kind;
        made.places = kind == 'i' ? new int[] {} : kind == 'p' ? new int[] {first} : new int[] {first, second};
        made.coarseness = coarseness;
        made.tools = tools;
        made.slices = slices;
        made.isKept = isKept;
        choose(made);
        for (int slice = 0; slice < slices; slice++) {
            made.bytes.add(written(made, slice));
        }
        int full = Math.max(0, fill - leak) + made.bits();
        if (hasBucket && full > room) {
            throw new UnsupportedOperationException();
        }
        take(made, full);
        return made.bits();
    }

    private void take(Coded made, int full) {
        pictures.add(made);
        if (made.isKept) {
            kept.add(0, made);
            if (kept.size() > 3) {
                kept.remove(3);
            }
        }
        if (hasBucket) {
            fill = full;
            if (fill > room * 0.75) {
                coarseness = Math.min(40, coarseness + 1);
            } else if (fill < room * 0.25) {
                coarseness = Math.max(1, coarseness - 1);
            }
        }
    }

    private void choose(Coded made) {
        for (int block = 0; block < 4; block++) {
            int left = block % 2 * 8;
            int top = block / 2 * 8;
            int least = 999;
            int greatest = -999;
            for (int y = top; y < top + 8; y++) {
                for (int x = left; x < left + 8; x++) {
                    least = Math.min(least, canvas[y][x]);
                    greatest = Math.max(greatest, canvas[y][x]);
                }
            }
            boolean isSplit = made.tools % 2 == 1 && greatest - least > 24 + 3 * made.coarseness;
            List<PartOf> parts = new ArrayList<>();
            for (int i = 0; i < (isSplit ? 4 : 1); i++) {
                PartOf part = new PartOf();
                part.x = left + i % 2 * 4;
                part.y = top + i / 2 * 4;
                part.n = isSplit ? 4 : 8;
                choosePart(made, part);
                parts.add(part);
            }
            made.blocks.add(parts);
        }
        smooth(made, made.built);
        for (int y = 0; y < 16; y++) {
            for (int x = 0; x < 16; x++) {
                made.error += (long) Math.pow(made.built[y][x] - canvas[y][x], 2);
            }
        }
    }

    private void choosePart(Coded made, PartOf part) {
        int[][][] leant = new int[made.places.length][][];
        int[][] vectors = new int[2][];
        for (int i = 0; i < made.places.length; i++) {
            leant[i] = kept.get(made.places[i]).built;
            vectors[i] = bestVector(made, part, leant[i]);
        }
        int modes = made.kind == 'i' ? 4 : made.kind == 'p' ? 5 : 7;
        int best = Integer.MAX_VALUE;
        for (int mode = 0; mode < modes; mode++) {
            PartOf tried = new PartOf();
            tried.x = part.x;
            tried.y = part.y;
            tried.n = part.n;
            tried.mode = mode;
            tried.vectors[0] = mode == 4 || mode == 6 ? vectors[0] : null;
            tried.vectors[1] = mode == 5 || mode == 6 ? vectors[1] : null;
            int cost = difference(tried, guess(made, made.built, tried, leant)) + (mode < 4 ? 2 * mode : 0)
                    + length(tried.vectors[0]) + length(tried.vectors[1]);
            if (cost < best) {
                best = cost;
                part.mode = mode;
                part.vectors = tried.vectors;
            }
        }
        int[][] guess = guess(made, made.built, part, leant);
        for (int y = 0; y < part.n; y += 4) {
            for (int x = 0; x < part.n; x += 4) {
                makeLevels(made, part.x + x, part.y + y, guess, x, y);
            }
        }
        buildBack(made, made.built, part, guess);
    }

    private static int length(int[] vector) {
        return vector == null ? 0 : Math.abs(vector[0]) + Math.abs(vector[1]);
    }

    private int difference(PartOf part, int[][] guess) {
        int sum = 0;
        for (int y = 0; y < part.n; y++) {
            for (int x = 0; x < part.n; x++) {
                sum += Math.abs(canvas[part.y + y][part.x + x] - guess[y][x]);
            }
        }
        return sum;
    }

    private int[] bestVector(Coded made, PartOf part, int[][] pixels) {
        int[] best = null;
        int least = Integer.MAX_VALUE;
        for (int second = -8; second <= 8; second++) {
            for (int first = -8; first <= 8; first++) {
                if (made.tools < 4 && (first % 2 != 0 || second % 2 != 0)) {
                    continue;
                }
                int[] vector = {first, second};
                int cost = length(vector);
                for (int y = 0; y < part.n; y++) {
                    for (int x = 0; x < part.n; x++) {
                        cost += Math.abs(canvas[part.y + y][part.x + x]
                                - guessed(pixels, part.x + x, part.y + y, vector));
                    }
                }
                if (cost < least) {
                    least = cost;
                    best = vector;
                }
            }
        }
        return best;
    }

    private static int guessed(int[][] pixels, int x, int y, int[] vector) {
        int px = 2 * x + vector[0];
        int py = 2 * y + vector[1];
        int left = Math.floorDiv(px, 2);
        int upper = Math.floorDiv(py, 2);
        boolean isOddX = Math.floorMod(px, 2) == 1;
        boolean isOddY = Math.floorMod(py, 2) == 1;
        int a = nearest(pixels, left, upper);
        if (!isOddX && !isOddY) {
            return a;
        }
        if (isOddX && !isOddY) {
            return (a + nearest(pixels, left + 1, upper) + 1) / 2;
        }
        if (!isOddX) {
            return (a + nearest(pixels, left, upper + 1) + 1) / 2;
        }
        return (a + nearest(pixels, left + 1, upper) + nearest(pixels, left, upper + 1)
                + nearest(pixels, left + 1, upper + 1) + 2) / 4;
    }

    private static int nearest(int[][] pixels, int x, int y) {
        return pixels[Math.max(0, Math.min(15, y))][Math.max(0, Math.min(15, x))];
    }

    private static int[][] guess(Coded made, int[][] built, PartOf part, int[][][] leant) {
        int n = part.n;
        int[][] guess = new int[n][n];
        int sum = n;
        for (int i = 0; i < n; i++) {
            sum += border(made, built, part, part.x + i, part.y - 1);
            sum += border(made, built, part, part.x - 1, part.y + i);
        }
        for (int y = 0; y < n; y++) {
            for (int x = 0; x < n; x++) {
                int above = border(made, built, part, part.x + x, part.y - 1);
                int left = border(made, built, part, part.x - 1, part.y + y);
                int corner = border(made, built, part, part.x - 1, part.y - 1);
                guess[y][x] = switch (part.mode) {
                    case 0 -> sum / (2 * n);
                    case 1 -> above;
                    case 2 -> left;
                    case 3 -> Math.max(0, Math.min(255, above + left - corner));
                    case 4 -> guessed(leant[0], part.x + x, part.y + y, part.vectors[0]);
                    case 5 -> guessed(leant[1], part.x + x, part.y + y, part.vectors[1]);
                    default -> (guessed(leant[0], part.x + x, part.y + y, part.vectors[0])
                            + guessed(leant[1], part.x + x, part.y + y, part.vectors[1]) + 1) / 2;
                };
            }
        }
        return guess;
    }

    private static int border(Coded made, int[][] built, PartOf part, int x, int y) {
        boolean isInSlice = x >= 0 && y >= 0 && (made.slices == 1 || y / 8 == part.y / 8);
        return isInSlice ? built[y][x] : 128;
    }

    private static final int[][] H = {{1, 1, 1, 1}, {1, 1, -1, -1}, {1, -1, -1, 1}, {1, -1, 1, -1}};

    private static int[][] times(int[][] a, int[][] b) {
        int[][] product = new int[4][4];
        for (int i = 0; i < 4; i++) {
            for (int j = 0; j < 4; j++) {
                for (int k = 0; k < 4; k++) {
                    product[i][j] += a[i][k] * b[k][j];
                }
            }
        }
        return product;
    }

    private void makeLevels(Coded made, int x, int y, int[][] guess, int inX, int inY) {
        int[][] d = new int[4][4];
        for (int v = 0; v < 4; v++) {
            for (int u = 0; u < 4; u++) {
                d[v][u] = canvas[y + v][x + u] - guess[inY + v][inX + u];
            }
        }
        int[][] c = times(times(H, d), H);
        for (int v = 0; v < 4; v++) {
            for (int u = 0; u < 4; u++) {
                int size = (Math.abs(c[v][u]) + made.coarseness) / (4 * made.coarseness);
                made.levels[y + v][x + u] = size * Integer.signum(c[v][u]);
            }
        }
    }

    private static void buildBack(Coded made, int[][] into, PartOf part, int[][] guess) {
        for (int y = 0; y < part.n; y += 4) {
            for (int x = 0; x < part.n; x += 4) {
                int[][] c = new int[4][4];
                for (int v = 0; v < 4; v++) {
                    for (int u = 0; u < 4; u++) {
                        c[v][u] = 4 * made.coarseness * made.levels[part.y + y + v][part.x + x + u];
                    }
                }
                int[][] d = times(times(H, c), H);
                for (int v = 0; v < 4; v++) {
                    for (int u = 0; u < 4; u++) {
                        int value = guess[y + v][x + u] + Math.floorDiv(d[v][u] + 8, 16);
                        into[part.y + y + v][part.x + x + u] = Math.max(0, Math.min(255, value));
                    }
                }
            }
        }
    }

    private static void smooth(Coded made, int[][] pixels) {
        if (made.tools / 2 % 2 == 0) {
            return;
        }
        for (int x = 4; x <= 12; x += 4) {
            for (int y = 0; y < 16; y++) {
                int a = pixels[y][x - 1];
                int b = pixels[y][x];
                if (Math.abs(a - b) < made.coarseness + 2) {
                    pixels[y][x - 1] = a + (b - a) / 4;
                    pixels[y][x] = b - (b - a) / 4;
                }
            }
        }
        for (int y = 4; y <= 12; y += 4) {
            if (y == 8 && made.slices == 2) {
                continue;
            }
            for (int x = 0; x < 16; x++) {
                int a = pixels[y - 1][x];
                int b = pixels[y][x];
                if (Math.abs(a - b) < made.coarseness + 2) {
                    pixels[y - 1][x] = a + (b - a) / 4;
                    pixels[y][x] = b - (b - a) / 4;
                }
            }
        }
    }

    // ---- the arithmetic coder

    private static final int PLAIN = -1;

    /** The bits of a slice, each as its context and its value. */
    private static byte[] written(Coded made, int slice) {
        List<int[]> bits = new ArrayList<>();
        int[][] last = {{0, 0}, {0, 0}};
        for (int block = 0; block < 4; block++) {
            if (made.slices == 2 && block / 2 != slice) {
                continue;
            }
            List<PartOf> parts = made.blocks.get(block);
            if (made.tools % 2 == 1) {
                put(bits, 0, parts.size() == 4);
            }
            for (PartOf part : parts) {
                putPart(bits, made, part, last);
            }
        }
        return arithmetic(bits);
    }

    private static void put(List<int[]> bits, int context, boolean isOne) {
        bits.add(new int[] {context, isOne ? 1 : 0});
    }

    private static void putPart(List<int[]> bits, Coded made, PartOf part, int[][] last) {
        if (made.kind != 'i') {
            put(bits, 1, part.mode >= 4);
        }
        if (part.mode >= 4) {
            if (made.kind == 'b') {
                put(bits, 2, part.mode == 6);
                if (part.mode != 6) {
                    put(bits, 3, part.mode == 5);
                }
            }
            for (int i = 0; i < 2; i++) {
                for (int j = 0; j < 2 && part.vectors[i] != null; j++) {
                    int less = part.vectors[i][j] - last[i][j];
                    putNumber(bits, 8, Math.abs(less));
                    if (less != 0) {
                        put(bits, PLAIN, less < 0);
                    }
                }
                last[i] = part.vectors[i] != null ? part.vectors[i] : last[i];
            }
        } else {
            put(bits, 4, part.mode == 2 || part.mode == 3);
            put(bits, part.mode < 2 ? 5 : 6, part.mode % 2 == 1);
        }
        for (int y = part.y; y < part.y + part.n; y += 4) {
            for (int x = part.x; x < part.x + part.n; x += 4) {
                putSquare(bits, made.levels, x, y);
            }
        }
    }

    private static void putNumber(List<int[]> bits, int k, int n) {
        for (int j = 0; j <= 11; j++) {
            put(bits, j > 5 ? k + 5 : k + j, n > j);
            if (n <= j) {
                return;
            }
        }
        String m = Integer.toBinaryString(n - 11);
        for (int i = 1; i < m.length(); i++) {
            put(bits, PLAIN, true);
        }
        put(bits, PLAIN, false);
        for (int i = 1; i < m.length(); i++) {
            put(bits, PLAIN, m.charAt(i) == '1');
        }
    }

    private static final int[] ROW = {0, 1, 4, 8, 5, 2, 3, 6, 9, 12, 13, 10, 7, 11, 14, 15};

    private static void putSquare(List<int[]> bits, int[][] levels, int x, int y) {
        int[] row = new int[16];
        int last = -1;
        for (int i = 0; i < 16; i++) {
            row[i] = levels[y + ROW[i] / 4][x + ROW[i] % 4];
            last = row[i] != 0 ? i : last;
        }
        put(bits, 7, last >= 0);
        if (last < 0) {
            return;
        }
        int t = 1;
        for (int weight = 8; weight > 0; weight /= 2) {
            int bit = last / weight % 2;
            put(bits, 32 + t, bit == 1);
            t = 2 * t + bit;
        }
        for (int i = last; i >= 0; i--) {
            if (i < last) {
                put(bits, 48 + i, row[i] != 0);
            }
            if (row[i] != 0) {
                put(bits, PLAIN, row[i] < 0);
                putNumber(bits, 64, Math.abs(row[i]) - 1);
            }
        }
    }

    private static byte[] arithmetic(List<int[]> bits) {
        BigInteger low = BigInteger.ZERO;
        long width = 4294967295L;
        int length = 0;
        int[] chances = new int[100];
        java.util.Arrays.fill(chances, 1024);
        for (int[] bit : bits) {
            if (bit[0] == PLAIN) {
                width = width / 2;
                low = bit[1] == 1 ? low.add(BigInteger.valueOf(width)) : low;
            } else {
                int c = chances[bit[0]];
                long b = width / 2048 * c;
                if (bit[1] == 0) {
                    width = b;
                    chances[bit[0]] = c + (2048 - c) / 32;
                } else {
                    low = low.add(BigInteger.valueOf(b));
                    width -= b;
                    chances[bit[0]] = c - c / 32;
                }
            }
            while (width < 16777216) {
                low = low.shiftLeft(8);
                width *= 256;
                length++;
            }
        }
        byte[] bytes = new byte[length + 4];
        for (int i = bytes.length - 1; i >= 0; i--) {
            bytes[i] = low.byteValue();
            low = low.shiftRight(8);
        }
        if (low.signum() != 0) {
            throw new AssertionError("the bytes do not hold all of L");
        }
        return bytes;
    }

    // ---- what is asked of the coder

    int pictures() {
        return pictures.size();
    }

    int kept() {
        return kept.size();
    }

    int keptAt(int place) {
        return kept.get(java.util.Objects.checkIndex(place, kept.size())).number;
    }

    int coarseness() {
        return coarseness;
    }

    int bucket() {
        if (!hasBucket) {
            throw new NoSuchElementException();
        }
        return fill;
    }

    private Coded at(int picture) {
        return pictures.get(java.util.Objects.checkIndex(picture, pictures.size()));
    }

    private static void lookAtPixel(int x, int y) {
        java.util.Objects.checkIndex(x, 16);
        java.util.Objects.checkIndex(y, 16);
    }

    private static void refuse(boolean isWrong) {
        if (isWrong) {
            throw new IllegalArgumentException();
        }
    }

    char kindOf(int picture) {
        return at(picture).kind;
    }

    int coarsenessOf(int picture) {
        return at(picture).coarseness;
    }

    int bytes(int picture, int slice) {
        Coded of = at(picture);
        return of.bytes.get(java.util.Objects.checkIndex(slice, of.slices)).length;
    }

    int byteAt(int picture, int slice, int index) {
        java.util.Objects.checkIndex(index, bytes(picture, slice));
        return at(picture).bytes.get(slice)[index] & 255;
    }

    private PartOf partOf(int picture, int x, int y) {
        Coded of = at(picture);
        lookAtPixel(x, y);
        return of.part(x, y);
    }

    int partAt(int picture, int x, int y) {
        return partOf(picture, x, y).n;
    }

    int modeAt(int picture, int x, int y) {
        return partOf(picture, x, y).mode;
    }

    int vectorAt(int picture, int x, int y, boolean isSecond) {
        int[] vector = partOf(picture, x, y).vectors[isSecond ? 1 : 0];
        if (vector == null) {
            throw new NoSuchElementException();
        }
        return 100 * (vector[0] + 8) + vector[1] + 8;
    }

    int levelAt(int picture, int x, int y) {
        Coded of = at(picture);
        lookAtPixel(x, y);
        return of.levels[y][x];
    }

    int built(int picture, int x, int y) {
        Coded of = at(picture);
        lookAtPixel(x, y);
        return of.built[y][x];
    }

    long errorOf(int picture) {
        return at(picture).error;
    }

    int heaviest(int rank) {
        java.util.Objects.checkIndex(rank, pictures.size());
        List<Coded> sorted = new ArrayList<>(pictures);
        sorted.sort((a, b) -> b.bits() != a.bits() ? b.bits() - a.bits() : a.number - b.number);
        return sorted.get(rank).number;
    }

    int commonest() {
        if (pictures.isEmpty()) {
            throw new NoSuchElementException();
        }
        int[] counts = new int[7];
        for (Coded picture : pictures) {
            for (List<PartOf> block : picture.blocks) {
                for (PartOf part : block) {
                    counts[part.mode]++;
                }
            }
        }
        int best = 0;
        for (int mode = 1; mode < 7; mode++) {
            best = counts[mode] > counts[best] ? mode : best;
        }
        return best;
    }

    // ---- the decoder

    char send(int lost) {
        if (next >= pictures.size()) {
            throw new NoSuchElementException();
        }
        Coded picture = pictures.get(next);
        refuse(lost < 0 || lost > (picture.slices == 1 ? 1 : 3));
        Held held = new Held();
        held.number = next;
        held.isClean = lost == 0;
        int[][][] leant = new int[picture.places.length][][];
        for (int i = 0; i < leant.length; i++) {
            boolean isThere = picture.places[i] < decoderKept.size();
            leant[i] = isThere ? decoderKept.get(picture.places[i]).pixels : grey();
            held.isClean &= isThere && decoderKept.get(picture.places[i]).isClean;
        }
        int[][] before = shown == null ? grey() : shown.pixels;
        held.pixels = new int[16][16];
        for (int block = 0; block < 4; block++) {
            int slice = picture.slices == 2 ? block / 2 : 0;
            for (PartOf part : picture.blocks.get(block)) {
                if ((lost & 1 << slice) != 0) {
                    for (int y = part.y; y < part.y + part.n; y++) {
                        for (int x = part.x; x < part.x + part.n; x++) {
                            held.pixels[y][x] = before[y][x];
                        }
                    }
                } else {
                    buildBack(picture, held.pixels, part, guess(picture, held.pixels, part, leant));
                }
            }
        }
        smooth(picture, held.pixels);
        showIt(picture, held);
        return held.isClean ? 'c' : 'b';
    }

    private void showIt(Coded picture, Held held) {
        shown = held;
        next++;
        sent++;
        clean += held.isClean ? 1 : 0;
        if (picture.isKept) {
            decoderKept.add(0, held);
            if (decoderKept.size() > 3) {
                decoderKept.remove(3);
            }
        }
    }

    private static int[][] grey() {
        int[][] pixels = new int[16][16];
        for (int[] row : pixels) {
            java.util.Arrays.fill(row, 128);
        }
        return pixels;
    }

    int join(int picture) {
        java.util.Objects.checkIndex(picture, pictures.size() + 1);
        int before = decoderKept.size();
        decoderKept.clear();
        shown = null;
        next = picture;
        return before;
    }

    private Held theShown() {
        if (shown == null) {
            throw new NoSuchElementException();
        }
        return shown;
    }

    int shown() {
        return theShown().number;
    }

    int shownAt(int x, int y) {
        lookAtPixel(x, y);
        return theShown().pixels[y][x];
    }

    boolean isClean() {
        return theShown().isClean;
    }

    int drift() {
        int count = 0;
        for (int y = 0; y < 16; y++) {
            for (int x = 0; x < 16; x++) {
                count += theShown().pixels[y][x] != at(shown.number).built[y][x] ? 1 : 0;
            }
        }
        return count;
    }

    // ---- totals

    double meanBits() {
        if (pictures.isEmpty()) {
            throw new ArithmeticException();
        }
        long sum = 0;
        for (Coded picture : pictures) {
            sum += picture.bits();
        }
        return (double) sum / (double) pictures.size();
    }

    float cleanShare() {
        if (sent == 0) {
            throw new ArithmeticException();
        }
        return (float) clean / (float) sent;
    }
}
