import java.util.NoSuchElementException;

/** A coder of moving pictures and its decoder; the document ../shared/DOC.md says what each call does. */
public final class BlockCast {
    private static final int SIDE = 16;
    private static final int PIXELS = 256;
    private static final int BLOCK = 8;
    private static final int SQUARE = 4;
    private static final int SQUARES = 16;
    private static final int SQUARES_OF_BLOCK = 4;
    private static final int GREY = 128;
    private static final int BRIGHTEST = 255;
    private static final int MOST_STEP = 99;
    private static final int MOST_GRAIN = 99;
    private static final int MOST_COARSENESS = 40;
    private static final int SPLITTING = 1;
    private static final int SMOOTHING = 2;
    private static final int ODD_VECTORS = 4;
    private static final int ALL_TOOLS = 7;
    private static final int MOST_SLICES = 2;
    private static final int MOST_KEPT = 3;
    private static final int MOST_PICTURES = 12;
    private static final int MOST_BUCKET = 99999;
    private static final int BORDER_MODES = 4;
    private static final int OF_FIRST = 4;
    private static final int OF_SECOND = 5;
    private static final int OF_BOTH = 6;
    private static final int MODES = 7;
    private static final int REACH = 8;
    private static final int VECTOR_BASE = 100;
    private static final int NONE = -1;

    private final int[] canvas;
    private final int[] moved;
    private int nextCoarseness;
    private int nextTools;
    private int nextSlices;
    private boolean isNextKept;
    private final Bucket bucketOfBits;
    private final Picture[] coded;
    private int codedCount;
    private Picture draft;
    private final int[] keptNumbers;
    private int keptCount;
    private final Chooser chooser;
    private final Scribe scribe;
    private final Decoder decoder;

    public BlockCast() {
        canvas = new int[PIXELS];
        moved = new int[PIXELS];
        nextCoarseness = 8;
        nextTools = ALL_TOOLS;
        nextSlices = 1;
        isNextKept = true;
        bucketOfBits = new Bucket();
        coded = new Picture[MOST_PICTURES];
        codedCount = 0;
        draft = new Picture();
        keptNumbers = new int[MOST_KEPT];
        keptCount = 0;
        chooser = new Chooser();
        scribe = new Scribe();
        decoder = new Decoder();
        decoder.startAt(0);
    }

    // ---- canvas

    public int fill(int x, int y, int width, int height, int value) throws IllegalArgumentException {
        if (!isOnCanvas(x, y) || width < 1 || width > SIDE - x || height < 1 || height > SIDE - y) {
            throw new IllegalArgumentException("the rectangle is not within the canvas");
        }
        if (!isValue(value)) {
            throw new IllegalArgumentException("the value is out of range");
        }
        int changes = 0;
        for (int row = y; row < y + height; row++) {
            for (int column = x; column < x + width; column++) {
                int place = placeOf(column, row);
                if (Rows.get(canvas, place) != value) {
                    Rows.put(canvas, place, value);
                    changes++;
                }
            }
        }
        return changes;
    }

    public int slope(int first, int stepX, int stepY) throws IllegalArgumentException {
        if (!isValue(first)) {
            throw new IllegalArgumentException("the first value is out of range");
        }
        if (stepX < -MOST_STEP || stepX > MOST_STEP || stepY < -MOST_STEP || stepY > MOST_STEP) {
            throw new IllegalArgumentException("a step is out of range");
        }
        for (int y = 0; y < SIDE; y++) {
            for (int x = 0; x < SIDE; x++) {
                Rows.put(canvas, placeOf(x, y), (first + x * stepX + y * stepY) & BRIGHTEST);
            }
        }
        return Rows.get(canvas, PIXELS - 1);
    }

    public int grain(int seed, int size) throws IllegalArgumentException {
        if (size < 1 || size > MOST_GRAIN) {
            throw new IllegalArgumentException("the size is out of range");
        }
        int number = seed;
        for (int place = 0; place < PIXELS; place++) {
            number = 1103515245 * number + 12345;
            int added = (number >>> 16) % (2 * size + 1) - size;
            Rows.put(canvas, place, withinValues(Rows.get(canvas, place) + added));
        }
        return number;
    }

    public int move(int right, int down) throws IllegalArgumentException {
        if (right <= -SIDE || right >= SIDE || down <= -SIDE || down >= SIDE) {
            throw new IllegalArgumentException("a number is out of range");
        }
        for (int y = 0; y < SIDE; y++) {
            for (int x = 0; x < SIDE; x++) {
                int target = placeOf((x + right) & (SIDE - 1), (y + down) & (SIDE - 1));
                Rows.put(moved, target, Rows.get(canvas, placeOf(x, y)));
            }
        }
        Rows.copy(moved, canvas);
        return Rows.get(canvas, 0);
    }

    public int pixel(int x, int y) throws IndexOutOfBoundsException {
        refuseNoPixel(x, y);
        return Rows.get(canvas, placeOf(x, y));
    }

    // ---- settings

    public int setCoarseness(int coarseness) throws IllegalArgumentException {
        if (coarseness < 1 || coarseness > MOST_COARSENESS) {
            throw new IllegalArgumentException("the coarseness is out of range");
        }
        int before = nextCoarseness;
        nextCoarseness = coarseness;
        return before;
    }

    public int setTools(int tools) throws IllegalArgumentException {
        if (tools < 0 || tools > ALL_TOOLS) {
            throw new IllegalArgumentException("the tools are out of range");
        }
        int before = nextTools;
        nextTools = tools;
        return before;
    }

    public int setSlices(int slices) throws IllegalArgumentException {
        if (slices < 1 || slices > MOST_SLICES) {
            throw new IllegalArgumentException("the number of slices is out of range");
        }
        int before = nextSlices;
        nextSlices = slices;
        return before;
    }

    public boolean setKept(boolean isKept) {
        boolean before = isNextKept;
        isNextKept = isKept;
        return before;
    }

    public int setBucket(int room, int leak) throws IllegalArgumentException {
        if (room < 0 || room > MOST_BUCKET || leak < 0 || leak > MOST_BUCKET) {
            throw new IllegalArgumentException("a number is out of range");
        }
        int before = bucketOfBits.isThere() ? bucketOfBits.bits : NONE;
        bucketOfBits.put(room, leak);
        return before;
    }

    // ---- coding

    public int code(char kind, int first, int second)
            throws IllegalArgumentException, IndexOutOfBoundsException, IllegalStateException,
            UnsupportedOperationException {
        if (kind != 'i' && kind != 'p' && kind != 'b') {
            throw new IllegalArgumentException("there is no such kind");
        }
        if (kind != 'i' && !isKeptPlace(first) || kind == 'b' && !isKeptPlace(second)) {
            throw new IndexOutOfBoundsException("there is no such kept picture");
        }
        if (codedCount >= MOST_PICTURES) {
            throw new IllegalStateException("there are 12 pictures");
        }
        draft.describe(kind, first, second);
        draft.useSettings(nextCoarseness, nextTools, nextSlices, isNextKept);
        chooser.lean(draft, keptPixels(first), keptPixels(second));
        chooser.choose(draft, canvas);
        scribe.writeSlice(draft, 0);
        scribe.writeSlice(draft, 1);
        int bits = scribe.bits();
        if (!bucketOfBits.hasRoomFor(bits)) {
            throw new UnsupportedOperationException("the bucket refuses the picture");
        }
        draft.finish(scribe.slice(0), scribe.slice(1), canvas);
        bucketOfBits.take(bits);
        nextCoarseness = bucketOfBits.steer(nextCoarseness);
        takeDraft();
        return bits;
    }

    public int pictures() {
        return codedCount;
    }

    public int kept() {
        return keptCount;
    }

    public int keptAt(int place) throws IndexOutOfBoundsException {
        if (!isKeptPlace(place)) {
            throw new IndexOutOfBoundsException("there is no such place");
        }
        return Rows.get(keptNumbers, place);
    }

    public int coarseness() {
        return nextCoarseness;
    }

    public int bucket() throws NoSuchElementException {
        if (!bucketOfBits.isThere()) {
            throw new NoSuchElementException("there is no bucket");
        }
        return bucketOfBits.bits;
    }

    // ---- coded pictures

    public char kindOf(int picture) throws IndexOutOfBoundsException {
        return pictureAt(picture).kind;
    }

    public int coarsenessOf(int picture) throws IndexOutOfBoundsException {
        return pictureAt(picture).step;
    }

    public int bytes(int picture, int slice) throws IndexOutOfBoundsException {
        return sliceAt(picture, slice).length;
    }

    public int byteAt(int picture, int slice, int index) throws IndexOutOfBoundsException {
        int[] row = sliceAt(picture, slice);
        if (index < 0 || index >= row.length) {
            throw new IndexOutOfBoundsException("there is no such byte");
        }
        return row[index];
    }

    public int partAt(int picture, int x, int y) throws IndexOutOfBoundsException {
        Picture of = pictureAt(picture);
        refuseNoPixel(x, y);
        return Rows.get(of.sizes, squareAt(x, y));
    }

    public int modeAt(int picture, int x, int y) throws IndexOutOfBoundsException {
        Picture of = pictureAt(picture);
        refuseNoPixel(x, y);
        return Rows.get(of.modes, squareAt(x, y));
    }

    public int vectorAt(int picture, int x, int y, boolean isSecond)
            throws IndexOutOfBoundsException, NoSuchElementException {
        Picture of = pictureAt(picture);
        refuseNoPixel(x, y);
        int vector = Rows.get(isSecond ? of.secondVectors : of.firstVectors, squareAt(x, y));
        if (vector == NONE) {
            throw new NoSuchElementException("the part uses no such vector");
        }
        return vector;
    }

    public int levelAt(int picture, int x, int y) throws IndexOutOfBoundsException {
        Picture of = pictureAt(picture);
        refuseNoPixel(x, y);
        return Rows.get(of.levels, placeOf(x, y));
    }

    public int built(int picture, int x, int y) throws IndexOutOfBoundsException {
        Picture of = pictureAt(picture);
        refuseNoPixel(x, y);
        return Rows.get(of.pixels, placeOf(x, y));
    }

    public long errorOf(int picture) throws IndexOutOfBoundsException {
        return pictureAt(picture).error;
    }

    public int heaviest(int rank) throws IndexOutOfBoundsException {
        if (rank < 0 || rank >= codedCount) {
            throw new IndexOutOfBoundsException("there are not so many pictures");
        }
        int found = 0;
        for (int number = 0; number < codedCount; number++) {
            if (heavierThan(number) == rank) {
                found = number;
            }
        }
        return found;
    }

    public int commonest() throws NoSuchElementException {
        if (codedCount == 0) {
            throw new NoSuchElementException("there are no pictures");
        }
        int found = 0;
        int most = 0;
        for (int mode = 0; mode < MODES; mode++) {
            int parts = 0;
            for (int number = 0; number < codedCount; number++) {
                parts += pictureAt(number).partsInMode(mode);
            }
            if (parts > most) {
                most = parts;
                found = mode;
            }
        }
        return found;
    }

    // ---- the decoder

    public char send(int lost) throws NoSuchElementException, IllegalArgumentException {
        if (decoder.next >= codedCount) {
            throw new NoSuchElementException("there is no next picture");
        }
        Picture picture = pictureAt(decoder.next);
        if (lost < 0 || lost >= 1 << picture.slices) {
            throw new IllegalArgumentException("the picture has no such slices");
        }
        decoder.receive(picture, lost);
        return decoder.isShownClean ? 'c' : 'b';
    }

    public int join(int picture) throws IndexOutOfBoundsException {
        if (picture < 0 || picture > codedCount) {
            throw new IndexOutOfBoundsException("there is no such picture");
        }
        int before = decoder.keptCount;
        decoder.startAt(picture);
        return before;
    }

    public int shown() throws NoSuchElementException {
        refuseNothingShown();
        return decoder.shownNumber;
    }

    public int shownAt(int x, int y) throws IndexOutOfBoundsException, NoSuchElementException {
        refuseNoPixel(x, y);
        refuseNothingShown();
        return Rows.get(decoder.shownPixels, placeOf(x, y));
    }

    public boolean isClean() throws NoSuchElementException {
        refuseNothingShown();
        return decoder.isShownClean;
    }

    public int drift() throws NoSuchElementException {
        refuseNothingShown();
        Picture picture = pictureAt(decoder.shownNumber);
        int differing = 0;
        for (int place = 0; place < PIXELS; place++) {
            if (Rows.get(decoder.shownPixels, place) != Rows.get(picture.pixels, place)) {
                differing++;
            }
        }
        return differing;
    }

    // ---- totals

    public double meanBits() throws ArithmeticException {
        if (codedCount == 0) {
            throw new ArithmeticException("there are no pictures");
        }
        int bits = 0;
        for (int number = 0; number < codedCount; number++) {
            bits += pictureAt(number).bits();
        }
        return (double) bits / (double) codedCount;
    }

    public float cleanShare() throws ArithmeticException {
        if (decoder.sentCount == 0) {
            throw new ArithmeticException("no picture was sent");
        }
        return (float) decoder.cleanCount / (float) decoder.sentCount;
    }

    // ---- what the calls share

    private static boolean isOnCanvas(int x, int y) {
        return x >= 0 && x < SIDE && y >= 0 && y < SIDE;
    }

    private static boolean isValue(int value) {
        return value >= 0 && value <= BRIGHTEST;
    }

    private static int withinValues(int value) {
        return value < 0 ? 0 : value > BRIGHTEST ? BRIGHTEST : value;
    }

    private static int placeOf(int x, int y) {
        return SIDE * y + x;
    }

    /** The number of the square in which a pixel is: squares are numbered in the order in which they are coded. */
    private static int squareAt(int x, int y) {
        int block = 2 * (y / BLOCK) + x / BLOCK;
        return SQUARES_OF_BLOCK * block + 2 * (y % BLOCK / SQUARE) + x % BLOCK / SQUARE;
    }

    private static int columnOf(int square) {
        return BLOCK * (square / SQUARES_OF_BLOCK % 2) + SQUARE * (square % 2);
    }

    private static int rowOf(int square) {
        return BLOCK * (square / (2 * SQUARES_OF_BLOCK)) + SQUARE * (square / 2 % 2);
    }

    /** How far a pixel of a square, 4 times its row plus its column, is from the first one of the square. */
    private static int inPicture(int place) {
        return SIDE * (place / SQUARE) + place % SQUARE;
    }

    private static boolean startsBlock(int square) {
        return square % SQUARES_OF_BLOCK == 0;
    }

    private static void refuseNoPixel(int x, int y) {
        if (!isOnCanvas(x, y)) {
            throw new IndexOutOfBoundsException("there is no such pixel");
        }
    }

    private void refuseNothingShown() {
        if (decoder.shownNumber == NONE) {
            throw new NoSuchElementException("no picture is shown");
        }
    }

    private Picture pictureAt(int number) {
        if (number < 0 || number >= codedCount || number >= coded.length) {
            throw new IndexOutOfBoundsException("there is no such picture");
        }
        Picture found = coded[number];
        if (found == null) {
            throw new IndexOutOfBoundsException("there is no such picture");
        }
        return found;
    }

    private int[] sliceAt(int picture, int slice) {
        Picture of = pictureAt(picture);
        if (slice < 0 || slice >= of.slices) {
            throw new IndexOutOfBoundsException("there is no such slice");
        }
        return slice == 0 ? of.upperBytes : of.lowerBytes;
    }

    private boolean isKeptPlace(int place) {
        return place >= 0 && place < keptCount;
    }

    /** The pixels of a kept picture, or null where there is none, which a picture that does not lean on it allows. */
    private int[] keptPixels(int place) {
        return isKeptPlace(place) ? pictureAt(Rows.get(keptNumbers, place)).pixels : null;
    }

    /** How many pictures come before this one in the order of their bits. */
    private int heavierThan(int number) {
        int bits = pictureAt(number).bits();
        int before = 0;
        for (int other = 0; other < codedCount; other++) {
            int otherBits = pictureAt(other).bits();
            if (otherBits > bits || otherBits == bits && other < number) {
                before++;
            }
        }
        return before;
    }

    private void takeDraft() {
        if (codedCount < 0 || codedCount >= coded.length) {
            return;
        }
        coded[codedCount] = draft;
        if (draft.isKept) {
            Rows.shift(keptNumbers, 1);
            Rows.put(keptNumbers, 0, codedCount);
            keptCount = Math.min(keptCount + 1, MOST_KEPT);
        }
        codedCount++;
        draft = new Picture();
    }

    /** Rows of numbers that are read and written only at places which they have. */
    private static final class Rows {
        static int get(int[] row, int place) {
            return row != null && place >= 0 && place < row.length ? row[place] : 0;
        }

        static void put(int[] row, int place, int value) {
            if (row != null && place >= 0 && place < row.length) {
                row[place] = value;
            }
        }

        static void set(int[] row, int value) {
            for (int place = 0; place < row.length; place++) {
                row[place] = value;
            }
        }

        static void copy(int[] from, int[] to) {
            for (int place = 0; place < from.length && place < to.length; place++) {
                to[place] = from[place];
            }
        }

        /** Moves all numbers towards the end, where the last ones go. */
        static void shift(int[] row, int by) {
            for (int place = row.length - 1; place >= by && by > 0; place--) {
                row[place] = row[place - by];
            }
        }
    }

    /** A bucket of bits; one without room is none. */
    private static final class Bucket {
        private int room = 0;
        private int leak = 0;
        private int bits = 0;

        boolean isThere() {
            return room > 0;
        }

        void put(int newRoom, int newLeak) {
            room = newRoom;
            leak = newLeak;
            bits = 0;
        }

        private int filledWith(int more) {
            return (bits > leak ? bits - leak : 0) + more;
        }

        boolean hasRoomFor(int more) {
            return !isThere() || filledWith(more) <= room;
        }

        void take(int more) {
            if (isThere()) {
                bits = filledWith(more);
            }
        }

        /** The coarseness of the next picture, after one with this coarseness. */
        int steer(int step) {
            if (isThere() && 4 * bits > 3 * room && step < MOST_COARSENESS) {
                return step + 1;
            }
            if (isThere() && 4 * bits < room && step > 1) {
                return step - 1;
            }
            return step;
        }
    }

    /** Vectors as the numbers that vectorAt answers. */
    private static final class Vectors {
        static int of(int right, int down) {
            return VECTOR_BASE * (right + REACH) + down + REACH;
        }

        static int right(int vector) {
            return vector / VECTOR_BASE - REACH;
        }

        static int down(int vector) {
            return vector % VECTOR_BASE - REACH;
        }

        static int length(int vector) {
            return Math.abs(right(vector)) + Math.abs(down(vector));
        }
    }

    /** A part of a picture, and how it is guessed. */
    private static final class Part {
        private int x = 0;
        private int y = 0;
        private int size = BLOCK;
        private int top = 0;
        private int mode = 0;
        private int firstVector = NONE;
        private int secondVector = NONE;

        /** Puts the part at its place, in a slice whose upper row is given. */
        void lay(int newX, int newY, int newSize, int newTop) {
            x = newX;
            y = newY;
            size = newSize;
            top = newTop;
        }

        boolean isOfBorder() {
            return mode < BORDER_MODES;
        }

        boolean usesFirst() {
            return mode == OF_FIRST || mode == OF_BOTH;
        }

        boolean usesSecond() {
            return mode == OF_SECOND || mode == OF_BOTH;
        }

        /** What the mode costs beside the differences. */
        int extraCost() {
            int cost = isOfBorder() ? 2 * mode : 0;
            cost += usesFirst() ? Vectors.length(firstVector) : 0;
            cost += usesSecond() ? Vectors.length(secondVector) : 0;
            return cost;
        }
    }

    /** A picture as it was coded: what its bits say, and what the coder built from it. */
    private static final class Picture {
        private char kind = 'i';
        private int first = 0;
        private int second = 0;
        private int step = 1;
        private int tools = 0;
        private int slices = 1;
        private boolean isKept = false;
        private long error = 0;
        private int[] upperBytes = new int[0];
        private int[] lowerBytes = new int[0];
        // of the part in which each square is
        private final int[] sizes = new int[SQUARES];
        private final int[] modes = new int[SQUARES];
        private final int[] firstVectors = new int[SQUARES];
        private final int[] secondVectors = new int[SQUARES];
        private final int[] levels = new int[PIXELS];
        private final int[] pixels = new int[PIXELS];

        void describe(char newKind, int newFirst, int newSecond) {
            kind = newKind;
            first = newFirst;
            second = newSecond;
        }

        void useSettings(int newStep, int newTools, int newSlices, boolean isNewKept) {
            step = newStep;
            tools = newTools;
            slices = newSlices;
            isKept = isNewKept;
        }

        void finish(int[] upper, int[] lower, int[] canvas) {
            upperBytes = upper;
            lowerBytes = lower;
            error = 0;
            for (int place = 0; place < PIXELS; place++) {
                int difference = Rows.get(pixels, place) - Rows.get(canvas, place);
                error += difference * difference;
            }
        }

        boolean has(int tool) {
            return (tools & tool) != 0;
        }

        boolean leansOnFirst() {
            return kind != 'i';
        }

        boolean leansOnSecond() {
            return kind == 'b';
        }

        /** How many modes a part can have. */
        int modeCount() {
            return leansOnSecond() ? MODES : leansOnFirst() ? BORDER_MODES + 1 : BORDER_MODES;
        }

        int sliceOf(int y) {
            return slices > 1 && y >= BLOCK ? 1 : 0;
        }

        int topOf(int y) {
            return BLOCK * sliceOf(y);
        }

        int bits() {
            return 8 * (upperBytes.length + lowerBytes.length);
        }

        boolean isSplitAt(int square) {
            return Rows.get(sizes, square) == SQUARE;
        }

        boolean startsPart(int square) {
            return startsBlock(square) || isSplitAt(square);
        }

        void note(Part part) {
            for (int y = part.y; y < part.y + part.size; y += SQUARE) {
                for (int x = part.x; x < part.x + part.size; x += SQUARE) {
                    int square = squareAt(x, y);
                    Rows.put(sizes, square, part.size);
                    Rows.put(modes, square, part.mode);
                    Rows.put(firstVectors, square, part.usesFirst() ? part.firstVector : NONE);
                    Rows.put(secondVectors, square, part.usesSecond() ? part.secondVector : NONE);
                }
            }
        }

        /** Fills in the part that starts with a square. */
        void recall(Part part, int square) {
            int y = rowOf(square);
            part.lay(columnOf(square), y, isSplitAt(square) ? SQUARE : BLOCK, topOf(y));
            part.mode = Rows.get(modes, square);
            part.firstVector = Rows.get(firstVectors, square);
            part.secondVector = Rows.get(secondVectors, square);
        }

        int partsInMode(int mode) {
            int parts = 0;
            for (int square = 0; square < SQUARES; square++) {
                if (startsPart(square) && Rows.get(modes, square) == mode) {
                    parts++;
                }
            }
            return parts;
        }
    }

    /** The values of a picture at all halves of pixels to which a vector can lead. */
    private static final class Halves {
        // the places -8 to 38: pixels 0 to 15, doubled, and up to 8 on both sides
        private static final int WIDTH = 47;
        private final int[] values = new int[WIDTH * WIDTH];

        void take(int[] pixels, int from) {
            for (int y = 0; y < WIDTH; y++) {
                for (int x = 0; x < WIDTH; x++) {
                    Rows.put(values, WIDTH * y + x, between(pixels, from, x - REACH, y - REACH));
                }
            }
        }

        // An even number has the same pixel on both sides, so that the mean of four is right for all places.
        private static int between(int[] pixels, int from, int x, int y) {
            int left = inside(x >> 1);
            int right = inside((x + 1) >> 1);
            int upper = from + SIDE * inside(y >> 1);
            int lower = from + SIDE * inside((y + 1) >> 1);
            int sum = Rows.get(pixels, upper + left) + Rows.get(pixels, upper + right)
                    + Rows.get(pixels, lower + left) + Rows.get(pixels, lower + right);
            return (sum + 2) >> 2;
        }

        private static int inside(int number) {
            return number < 0 ? 0 : number >= SIDE ? SIDE - 1 : number;
        }

        // A vector bears its numbers plus 8, and the values begin 8 places outside of the picture.
        private static int placeFrom(int vector, int x, int y) {
            return WIDTH * (2 * y + vector % VECTOR_BASE) + 2 * x + vector / VECTOR_BASE;
        }

        int guessed(int vector, int x, int y) {
            return Rows.get(values, placeFrom(vector, x, y));
        }

        /** The cost of a vector by itself; if it is not below the limit, some number that is not, either. */
        int costOf(int vector, int[] canvas, Part part, int limit) {
            int cost = Vectors.length(vector);
            int from = placeOf(part.x, part.y);
            int place = placeFrom(vector, part.x, part.y);
            for (int row = 0; row < part.size && cost < limit; row++) {
                cost += rowDifference(canvas, from + SIDE * row, place + 2 * WIDTH * row, part.size);
            }
            return cost;
        }

        private int rowDifference(int[] canvas, int from, int place, int size) {
            if (from < 0 || from + size > canvas.length || place < 0 || place + 2 * size - 1 > values.length) {
                return 0;
            }
            int sum = 0;
            for (int i = 0; i < size; i++) {
                sum += Math.abs(canvas[from + i] - values[place + 2 * i]);
            }
            return sum;
        }
    }

    /** Guesses parts and builds them back, for the coder and for the decoder. */
    private static final class Builder {
        private final Halves first = new Halves();
        private final Halves second = new Halves();
        private final int[] above = new int[BLOCK];
        private final int[] left = new int[BLOCK];
        private int corner = GREY;
        private int mean = GREY;
        private final int[] guess = new int[PIXELS];
        private final int[] square = new int[SQUARE * SQUARE];

        void takeBorder(int[] pixels, Part part) {
            int sum = 0;
            for (int i = 0; i < part.size; i++) {
                int upper = bordering(pixels, part.x + i, part.y - 1, part.top);
                int side = bordering(pixels, part.x - 1, part.y + i, part.top);
                Rows.put(above, i, upper);
                Rows.put(left, i, side);
                sum += upper + side;
            }
            corner = bordering(pixels, part.x - 1, part.y - 1, part.top);
            mean = part.size > 0 ? (sum + part.size) / (2 * part.size) : GREY;
        }

        private static int bordering(int[] pixels, int x, int y, int top) {
            return x < 0 || y < top ? GREY : Rows.get(pixels, placeOf(x, y));
        }

        void guessPart(Part part) {
            for (int y = part.y; y < part.y + part.size; y++) {
                for (int x = part.x; x < part.x + part.size; x++) {
                    int value = part.isOfBorder() ? fromBorder(part.mode, x - part.x, y - part.y)
                            : fromKept(part, x, y);
                    Rows.put(guess, placeOf(x, y), value);
                }
            }
        }

        private int fromBorder(int mode, int column, int row) {
            switch (mode) {
                case 0:
                    return mean;
                case 1:
                    return Rows.get(above, column);
                case 2:
                    return Rows.get(left, row);
                default:
                    return withinValues(Rows.get(above, column) + Rows.get(left, row) - corner);
            }
        }

        private int fromKept(Part part, int x, int y) {
            if (!part.usesSecond()) {
                return first.guessed(part.firstVector, x, y);
            }
            if (!part.usesFirst()) {
                return second.guessed(part.secondVector, x, y);
            }
            int sum = first.guessed(part.firstVector, x, y) + second.guessed(part.secondVector, x, y);
            return (sum + 1) >> 1;
        }

        /** The sum of the differences between the canvas and the guess of a part. */
        int guessError(int[] canvas, Part part) {
            int sum = 0;
            for (int y = part.y; y < part.y + part.size; y++) {
                for (int x = part.x; x < part.x + part.size; x++) {
                    int place = placeOf(x, y);
                    sum += Math.abs(Rows.get(canvas, place) - Rows.get(guess, place));
                }
            }
            return sum;
        }

        /** Makes the levels of a square, whose first pixel has the given place. */
        void levelSquare(Picture picture, int[] canvas, int from) {
            for (int i = 0; i < square.length; i++) {
                int place = from + inPicture(i);
                square[i] = Rows.get(canvas, place) - Rows.get(guess, place);
            }
            transform();
            for (int i = 0; i < square.length; i++) {
                Rows.put(picture.levels, from + inPicture(i), levelOf(square[i], picture.step));
            }
        }

        private static int levelOf(int coefficient, int step) {
            if (step < 1) {
                return 0;
            }
            int size = (Math.abs(coefficient) + step) / (4 * step);
            return coefficient < 0 ? -size : size;
        }

        /** Builds a square back from its guess and its levels. */
        void buildSquare(Picture picture, int[] pixels, int from) {
            for (int i = 0; i < square.length; i++) {
                square[i] = 4 * picture.step * Rows.get(picture.levels, from + inPicture(i));
            }
            transform();
            for (int i = 0; i < square.length; i++) {
                int place = from + inPicture(i);
                int difference = (square[i] + 8) >> 4;
                Rows.put(pixels, place, withinValues(Rows.get(guess, place) + difference));
            }
        }

        /** Makes H S H of the square S, by its rows and then by its columns. */
        private void transform() {
            for (int row = 0; row < SQUARE; row++) {
                transformLine(SQUARE * row, 1);
            }
            for (int column = 0; column < SQUARE; column++) {
                transformLine(column, SQUARE);
            }
        }

        private void transformLine(int from, int apart) {
            int a = Rows.get(square, from);
            int b = Rows.get(square, from + apart);
            int c = Rows.get(square, from + 2 * apart);
            int d = Rows.get(square, from + 3 * apart);
            Rows.put(square, from, a + b + c + d);
            Rows.put(square, from + apart, a + b - c - d);
            Rows.put(square, from + 2 * apart, a - b - c + d);
            Rows.put(square, from + 3 * apart, a - b + c - d);
        }

        void smooth(Picture picture, int[] pixels) {
            if (!picture.has(SMOOTHING)) {
                return;
            }
            for (int x = SQUARE; x < SIDE; x += SQUARE) {
                for (int y = 0; y < SIDE; y++) {
                    smoothPair(pixels, placeOf(x - 1, y), placeOf(x, y), picture.step);
                }
            }
            for (int y = SQUARE; y < SIDE; y += SQUARE) {
                boolean isInSlice = picture.sliceOf(y - 1) == picture.sliceOf(y);
                for (int x = 0; x < SIDE && isInSlice; x++) {
                    smoothPair(pixels, placeOf(x, y - 1), placeOf(x, y), picture.step);
                }
            }
        }

        private static void smoothPair(int[] pixels, int one, int other, int step) {
            int a = Rows.get(pixels, one);
            int b = Rows.get(pixels, other);
            if (Math.abs(a - b) < step + 2) {
                int quarter = (b - a) / 4;
                Rows.put(pixels, one, a + quarter);
                Rows.put(pixels, other, b - quarter);
            }
        }
    }

    /** Chooses how a picture is split, guessed and made coarse, and builds it as the decoder will. */
    private static final class Chooser {
        // more than any part can cost
        private static final int FAR_COST = 1000000;
        private final Builder builder = new Builder();
        private final Part part = new Part();

        void lean(Picture picture, int[] firstPixels, int[] secondPixels) {
            if (picture.leansOnFirst()) {
                builder.first.take(firstPixels, 0);
            }
            if (picture.leansOnSecond()) {
                builder.second.take(secondPixels, 0);
            }
        }

        void choose(Picture picture, int[] canvas) {
            int size = BLOCK;
            for (int square = 0; square < SQUARES; square++) {
                int x = columnOf(square);
                int y = rowOf(square);
                if (startsBlock(square)) {
                    size = isToSplit(picture, canvas, x, y) ? SQUARE : BLOCK;
                }
                if (startsBlock(square) || size == SQUARE) {
                    part.lay(x, y, size, picture.topOf(y));
                    choosePart(picture, canvas);
                }
                builder.levelSquare(picture, canvas, placeOf(x, y));
                builder.buildSquare(picture, picture.pixels, placeOf(x, y));
            }
            builder.smooth(picture, picture.pixels);
        }

        private static boolean isToSplit(Picture picture, int[] canvas, int x, int y) {
            int least = BRIGHTEST;
            int greatest = 0;
            for (int row = y; row < y + BLOCK; row++) {
                for (int column = x; column < x + BLOCK; column++) {
                    int value = Rows.get(canvas, placeOf(column, row));
                    least = Math.min(least, value);
                    greatest = Math.max(greatest, value);
                }
            }
            return picture.has(SPLITTING) && greatest - least > 24 + 3 * picture.step;
        }

        /** Finds the mode and the vectors of the part, and leaves its guess with the builder. */
        private void choosePart(Picture picture, int[] canvas) {
            int stride = picture.has(ODD_VECTORS) ? 1 : 2;
            part.firstVector = picture.leansOnFirst() ? search(builder.first, canvas, stride) : NONE;
            part.secondVector = picture.leansOnSecond() ? search(builder.second, canvas, stride) : NONE;
            builder.takeBorder(picture.pixels, part);
            int cheapest = 0;
            int least = FAR_COST;
            for (int mode = 0; mode < picture.modeCount(); mode++) {
                part.mode = mode;
                builder.guessPart(part);
                int cost = builder.guessError(canvas, part) + part.extraCost();
                if (cost < least) {
                    least = cost;
                    cheapest = mode;
                }
            }
            part.mode = cheapest;
            builder.guessPart(part);
            picture.note(part);
        }

        private int search(Halves halves, int[] canvas, int stride) {
            int found = Vectors.of(0, 0);
            int least = FAR_COST;
            int apart = stride > 1 ? stride : 1;
            for (int down = -REACH; down <= REACH; down += apart) {
                for (int right = -REACH; right <= REACH; right += apart) {
                    int vector = Vectors.of(right, down);
                    int cost = halves.costOf(vector, canvas, part, least);
                    if (cost < least) {
                        least = cost;
                        found = vector;
                    }
                }
            }
            return found;
        }
    }

    /** The arithmetic coder of one slice. */
    private static final class Writer {
        private static final int CONTEXTS = 70;
        private static final int EVEN_CHANCE = 1024;
        private static final int FULL_CHANCE = 2048;
        private static final long FOUR_BYTES = 4294967295L;
        private static final long LEAST_WIDTH = 16777216L;
        // More than a slice can need: a chance stays from 31 to 2017, so that a bit in a context is no longer than 6.1
        // plain ones. 256 levels of 13 bits in contexts and 20 plain ones, and what is told of 16 parts and 16 squares,
        // are together less than 32000 plain bits.
        private static final int MOST_BYTES = 4096;
        private static final int LAST_CONTEXT = 5;
        private static final int COUNTED = 11;
        private final int[] chances = new int[CONTEXTS];
        // The document's L is the row's numbers, each 256 times the next one, and low behind them; a number may be
        // more than a byte until the end.
        private final int[] row = new int[MOST_BYTES];
        private int length = 0;
        private long low = 0;
        private long width = FOUR_BYTES;

        void start() {
            Rows.set(chances, EVEN_CHANCE);
            length = 0;
            low = 0;
            width = FOUR_BYTES;
        }

        void bit(int context, boolean isOne) {
            int chance = Rows.get(chances, context);
            long bound = width / FULL_CHANCE * chance;
            if (isOne) {
                Rows.put(chances, context, chance - chance / 32);
                narrow(bound, width - bound);
            } else {
                Rows.put(chances, context, chance + (FULL_CHANCE - chance) / 32);
                narrow(0, bound);
            }
        }

        void plain(boolean isOne) {
            long half = width / 2;
            narrow(isOne ? half : 0, half);
        }

        private void narrow(long added, long newWidth) {
            low += added;
            if (low > FOUR_BYTES) {
                low &= FOUR_BYTES;
                Rows.put(row, length - 1, Rows.get(row, length - 1) + 1);
            }
            width = newWidth;
            for (int i = 0; i < 4 && width < LEAST_WIDTH; i++) {
                giveByte();
                width *= 256;
            }
        }

        private void giveByte() {
            if (length >= 0 && length < row.length) {
                row[length] = (int) (low >> 24);
                length++;
            }
            low = low << 8 & FOUR_BYTES;
        }

        void number(int context, int n) {
            boolean isMore = true;
            for (int j = 0; j <= COUNTED && isMore; j++) {
                isMore = n > j;
                bit(context + Math.min(j, LAST_CONTEXT), isMore);
            }
            if (!isMore) {
                return;
            }
            int rest = n - COUNTED;
            int halvings = 0;
            for (int half = rest; half > 1; half /= 2) {
                plain(true);
                halvings++;
            }
            plain(false);
            for (int i = halvings - 1; i >= 0; i--) {
                plain((rest >> i & 1) != 0);
            }
        }

        void end() {
            for (int i = 0; i < 4; i++) {
                giveByte();
            }
            for (int place = Math.min(length, row.length) - 1; place > 0; place--) {
                row[place - 1] += row[place] >> 8;
                row[place] &= 255;
            }
        }

        int[] written() {
            int[] copy = new int[Math.max(0, length)];
            Rows.copy(row, copy);
            return copy;
        }
    }

    /** Writes what a picture is made of, slice by slice. */
    private static final class Scribe {
        private static final int[] ROW = {0, 1, 4, 8, 5, 2, 3, 6, 9, 12, 13, 10, 7, 11, 14, 15};
        private static final int IS_SPLIT = 0;
        private static final int IS_OF_KEPT = 1;
        private static final int IS_OF_BOTH = 2;
        private static final int IS_OF_SECOND = 3;
        private static final int IS_2_OR_3 = 4;
        private static final int IS_1 = 5;
        private static final int IS_3 = 6;
        private static final int HAS_LEVELS = 7;
        private static final int VECTOR_NUMBERS = 8;
        private static final int LAST_PLACE = 32;
        private static final int IS_LEVEL = 48;
        private static final int LEVEL_NUMBERS = 64;
        private final Writer upper = new Writer();
        private final Writer lower = new Writer();
        private Writer writer = upper;
        private final Part part = new Part();

        /** Writes a slice; one that the picture does not have gets no bytes. */
        void writeSlice(Picture picture, int slice) {
            int lastFirst = Vectors.of(0, 0);
            int lastSecond = Vectors.of(0, 0);
            writer = slice == 0 ? upper : lower;
            writer.start();
            for (int square = 0; square < SQUARES; square++) {
                if (picture.sliceOf(rowOf(square)) != slice) {
                    continue;
                }
                if (startsBlock(square) && picture.has(SPLITTING)) {
                    writer.bit(IS_SPLIT, picture.isSplitAt(square));
                }
                if (picture.startsPart(square)) {
                    picture.recall(part, square);
                    writeMode(picture);
                    lastFirst = writeVector(part.usesFirst(), part.firstVector, lastFirst);
                    lastSecond = writeVector(part.usesSecond(), part.secondVector, lastSecond);
                }
                writeSquare(picture.levels, placeOf(columnOf(square), rowOf(square)));
            }
            if (slice < picture.slices) {
                writer.end();
            }
        }

        int bits() {
            return 8 * (upper.length + lower.length);
        }

        int[] slice(int slice) {
            return slice == 0 ? upper.written() : lower.written();
        }

        private void writeMode(Picture picture) {
            if (picture.leansOnFirst()) {
                writer.bit(IS_OF_KEPT, !part.isOfBorder());
            }
            if (part.isOfBorder()) {
                writer.bit(IS_2_OR_3, part.mode >= 2);
                writer.bit(part.mode >= 2 ? IS_3 : IS_1, part.mode % 2 == 1);
            } else if (picture.leansOnSecond()) {
                writer.bit(IS_OF_BOTH, part.mode == OF_BOTH);
                if (part.mode != OF_BOTH) {
                    writer.bit(IS_OF_SECOND, part.mode == OF_SECOND);
                }
            }
        }

        /** Writes a vector, if it is used, and tells which one was written last. */
        private int writeVector(boolean isUsed, int vector, int last) {
            if (!isUsed) {
                return last;
            }
            int right = Vectors.right(vector) - Vectors.right(last);
            writer.number(VECTOR_NUMBERS, Math.abs(right));
            if (right != 0) {
                writer.plain(right < 0);
            }
            int down = Vectors.down(vector) - Vectors.down(last);
            writer.number(VECTOR_NUMBERS, Math.abs(down));
            if (down != 0) {
                writer.plain(down < 0);
            }
            return vector;
        }

        private void writeSquare(int[] levels, int from) {
            int last = NONE;
            for (int place = 0; place < ROW.length; place++) {
                if (Rows.get(levels, from + inPicture(ROW[place])) != 0) {
                    last = place;
                }
            }
            writer.bit(HAS_LEVELS, last != NONE);
            if (last == NONE) {
                return;
            }
            writeLastPlace(last);
            for (int place = last; place >= 0; place--) {
                int level = Rows.get(levels, from + inPicture(Rows.get(ROW, place)));
                if (place != last) {
                    writer.bit(IS_LEVEL + place, level != 0);
                }
                if (level != 0) {
                    writer.plain(level < 0);
                    writer.number(LEVEL_NUMBERS, Math.abs(level) - 1);
                }
            }
        }

        private void writeLastPlace(int last) {
            int node = 1;
            for (int i = 3; i >= 0; i--) {
                int bit = last >> i & 1;
                writer.bit(LAST_PLACE + node, bit != 0);
                node = 2 * node + bit;
            }
        }
    }

    /** The decoder, for which a kept picture that is not there is a grey and broken one. */
    private static final class Decoder {
        private final Builder builder = new Builder();
        private final Part part = new Part();
        private final int[] work = new int[PIXELS];
        private int next = 0;
        private int shownNumber = NONE;
        private boolean isShownClean = false;
        private final int[] shownPixels = new int[PIXELS];
        private int keptCount = 0;
        private final int[] keptPixels = new int[MOST_KEPT * PIXELS];
        private final int[] keptClean = new int[MOST_KEPT];
        private int sentCount = 0;
        private int cleanCount = 0;

        void startAt(int picture) {
            next = picture;
            shownNumber = NONE;
            isShownClean = false;
            Rows.set(shownPixels, GREY);
            keptCount = 0;
            Rows.set(keptPixels, GREY);
            Rows.set(keptClean, 0);
        }

        void receive(Picture picture, int lost) {
            build(picture, lost);
            isShownClean = lost == 0 && leansOnClean(picture);
            Rows.copy(work, shownPixels);
            shownNumber = next;
            next++;
            sentCount++;
            cleanCount += isShownClean ? 1 : 0;
            if (picture.isKept) {
                keep();
            }
        }

        private boolean leansOnClean(Picture picture) {
            return (!picture.leansOnFirst() || Rows.get(keptClean, picture.first) == 1)
                    && (!picture.leansOnSecond() || Rows.get(keptClean, picture.second) == 1);
        }

        private void keep() {
            Rows.shift(keptPixels, PIXELS);
            Rows.copy(work, keptPixels);
            Rows.shift(keptClean, 1);
            Rows.put(keptClean, 0, isShownClean ? 1 : 0);
            keptCount = Math.min(keptCount + 1, MOST_KEPT);
        }

        private void build(Picture picture, int lost) {
            if (picture.leansOnFirst()) {
                builder.first.take(keptPixels, PIXELS * picture.first);
            }
            if (picture.leansOnSecond()) {
                builder.second.take(keptPixels, PIXELS * picture.second);
            }
            for (int square = 0; square < SQUARES; square++) {
                int from = placeOf(columnOf(square), rowOf(square));
                boolean isLost = (lost >> picture.sliceOf(rowOf(square)) & 1) != 0;
                if (isLost) {
                    conceal(from);
                    continue;
                }
                if (picture.startsPart(square)) {
                    picture.recall(part, square);
                    builder.takeBorder(work, part);
                    builder.guessPart(part);
                }
                builder.buildSquare(picture, work, from);
            }
            builder.smooth(picture, work);
        }

        private void conceal(int from) {
            for (int i = 0; i < SQUARE * SQUARE; i++) {
                int place = from + inPicture(i);
                Rows.put(work, place, Rows.get(shownPixels, place));
            }
        }
    }
}
