/** The sentences of the document on how a picture is coded, from the blocks to the smoothing, each with a test. */
final class PartsEdgeTest {
    private PartsEdgeTest() {
    }

    public static void main(String[] args) {
        blocks();
        contrast();
        parts();
        leastCost();
        lowestOfSeveral();
        lowestOfKeptModes();
        border();
        borderOfTheLowerSlice();
        bordersAreAsBuilt();
        meanOfBorders();
        planeIsHeld();
        meanOfBoth();
        costOfTheMode();
        costOfTheVector();
        costOfBothVectors();
        vectorsReach();
        evenVectors();
        halfPlaces();
        outsideIsNearest();
        firstOfSeveralVectors();
        vectorsOfBoth();
        eachRowAndColumnCounts();
        noRowIsLeftOut();
        noOtherPixelCounts();
        eachKeptPictureByItself();
        levelsAreRounded();
        placesOfLevels();
        builtIsRoundedDown();
        builtIsHeld();
        smoothedPairs();
        smoothedEdges();
        smoothedInOrder();
        smoothedIsLeantOn();
        Check.end("PartsEdgeTest");
    }

    private static int lastPicture(BlockCast cast) {
        return cast.pictures() - 1;
    }

    private static void mode(String what, BlockCast cast, int x, int y, int want) {
        Check.due(what, () -> cast.modeAt(lastPicture(cast), x, y), want);
    }

    private static void builtAt(String what, BlockCast cast, int x, int y, int want) {
        Check.due(what, () -> cast.built(lastPicture(cast), x, y), want);
    }

    private static void levelAt(String what, BlockCast cast, int x, int y, int want) {
        Check.due(what, () -> cast.levelAt(lastPicture(cast), x, y), want);
    }

    // ---- blocks and parts

    private static void blocks() {
        Check.sentence("Pictures", "Each slice is coded for itself: its blocks of 8 times 8 pixels go from left "
                + "to right and from above to below.");
        // a block leans on the one to its left and on the one above it, which therefore are built before it
        BlockCast cast = Made.flat(50, 1, 0);
        cast.code('i', 0, 0);
        mode("the block 0 has nothing", cast, 7, 7, 0);
        mode("the block 1 has one to its left", cast, 8, 7, 2);
        mode("the block 2 has one above", cast, 7, 8, 1);
        mode("the block 3 has both", cast, 8, 8, 0);
        levelAt("so that nothing is left", cast, 8, 8, 0);
        cast.setSlices(2);
        cast.code('i', 0, 0);
        mode("the block 2 has nothing", cast, 0, 15, 0);
        levelAt("from 128 to 50", cast, 0, 8, -312);
        mode("the block 3 has one to its left", cast, 15, 15, 2);
        Check.due("both slices say the same", () -> Made.bytes(cast, 1, 0), Made.bytes(cast, 1, 1));
    }

    private static void contrast() {
        Check.sentence("Pictures", "if the greatest value that the canvas has in it, less the least one, is more "
                + "than 24 plus 3 times the coarseness");
        int[] coarsenesses = {1, 8, 40};
        int[] limits = {27, 48, 144};
        for (int i = 0; i < 3; i++) {
            for (int contrast = limits[i]; contrast <= limits[i] + 1; contrast++) {
                int size = contrast > limits[i] ? 4 : 8;
                BlockCast cast = Made.flat(100, coarsenesses[i], 1);
                cast.fill(3, 3, 1, 1, 100 + contrast);
                cast.code('i', 0, 0);
                Check.due("more by " + contrast, () -> cast.partAt(0, 7, 0), size);
                Made.paint(cast, 200);
                cast.fill(3, 3, 1, 1, 200 - contrast);
                cast.code('i', 0, 0);
                Check.due("less by " + contrast, () -> cast.partAt(1, 7, 0), size);
            }
        }
        int[][] corners = {{0, 0}, {7, 0}, {0, 7}, {7, 7}, {8, 0}, {15, 0}, {8, 7}, {15, 7}, {0, 8}, {7, 15}, {8, 8},
            {15, 15}};
        for (int[] c : corners) {
            BlockCast cast = Made.flat(100, 8, 1);
            cast.fill(c[0], c[1], 1, 1, 200);
            cast.code('i', 0, 0);
            for (int block = 0; block < 4; block++) {
                int x = block % 2 * 8;
                int y = block / 2 * 8;
                int size = c[0] / 8 == block % 2 && c[1] / 8 == block / 2 ? 4 : 8;
                Check.due("just the block with " + c[0] + ", " + c[1], () -> cast.partAt(0, x + 3, y + 4), size);
            }
        }
        Check.sentence("Pictures", "If blocks may be split");
        BlockCast cast = Made.flat(0, 1, 6);
        cast.fill(0, 0, 1, 1, 255);
        cast.code('i', 0, 0);
        Check.due("they may not", () -> cast.partAt(0, 0, 0), 8);
    }

    private static void parts() {
        Check.sentence("Pictures", "one is split into four of 4 times 4, in the same order");
        Check.sentence("Pictures", "A block that is not split, and each one that it is split into, is a part.");
        BlockCast cast = Made.flat(60, 4, 1);
        cast.fill(4, 4, 4, 4, 160);
        cast.code('i', 0, 0);
        mode("the first has nothing", cast, 0, 0, 0);
        mode("the second leans on the first", cast, 4, 0, 2);
        mode("the third leans on the first", cast, 0, 4, 1);
        mode("the fourth has all the same", cast, 7, 7, 0);
        for (int place = 0; place < 64; place++) {
            int x = place % 8;
            int y = place / 8;
            Check.due("all of the block", () -> cast.partAt(0, x, y), 4);
        }
        Check.due("the block 1 is one part", () -> cast.partAt(0, 8, 0), 8);
        builtAt("the fourth is exact", cast, 7, 4, 160);
        builtAt("the third is, too", cast, 3, 7, 60);
    }

    // ---- guesses

    private static void leastCost() {
        Check.sentence("Guesses", "A part of n times n pixels is guessed in the mode with the least cost");
        Check.sentence("Guesses", "1, the pixel above in its column");
        BlockCast cast = Made.flat(0, 1, 0);
        cast.slope(20, 5, 0);
        cast.code('i', 0, 0);
        mode("columns go on downwards", cast, 15, 15, 1);
        Check.sentence("Guesses", "2, the pixel to the left in its row");
        cast.slope(20, 0, 5);
        cast.code('i', 0, 0);
        mode("rows go on to the right", cast, 15, 15, 2);
        Check.sentence("Guesses", "3, the sum of both less the corner");
        cast.slope(20, 5, 5);
        cast.code('i', 0, 0);
        mode("a plane goes on", cast, 15, 15, 3);
        Check.sentence("Guesses", "The modes 4 to 6 are of kept pictures: 4, of the first one, 5, of the second "
                + "one, only for 'b', 6, of both");
        Made.paint(cast, 60);
        cast.code('i', 0, 0);
        Made.paint(cast, 90);
        cast.code('i', 0, 0);
        cast.setKept(false);
        cast.code('p', 0, 0);
        mode("of the first one", cast, 0, 0, 4);
        Made.paint(cast, 60);
        cast.code('p', 0, 1);
        mode("not of the second one for 'p'", cast, 0, 0, 4);
        Check.due("but of the first one, which is 90", () -> cast.levelAt(lastPicture(cast), 0, 0), -120);
        cast.code('b', 0, 1);
        mode("of the second one", cast, 0, 0, 5);
        Made.paint(cast, 75);
        cast.code('b', 0, 1);
        mode("of both", cast, 0, 0, 6);
        levelAt("exact", cast, 0, 0, 0);
        cast.code('i', 0, 1);
        mode("not for 'i'", cast, 0, 0, 0);
    }

    private static void lowestOfSeveral() {
        Check.sentence("Guesses", "of several the lowest one");
        // the border of the block 1 is 129 at the left and 128 above: the modes 0 and 2 guess 129, the mode 1 guesses 128;
        // with n pixels of 129, and 128 else, the mode 0 costs 64 less n, and the mode 1 costs n plus 2
        for (int n = 29; n <= 33; n++) {
            BlockCast cast = Made.flat(128, 1, 0);
            cast.fill(0, 0, 8, 8, 129);
            cast.fill(8, 0, 8, n / 8, 129);
            if (n % 8 > 0) {
                cast.fill(8, n / 8, n % 8, 1, 129);
            }
            cast.code('i', 0, 0);
            mode("the modes 0 and 1 with " + n, cast, 8, 0, n >= 31 ? 0 : 1);
        }
        // in the block 0 the border guesses 128, and the kept picture 129
        BlockCast kept = Made.flat(129, 1, 0);
        kept.code('i', 0, 0);
        kept.setKept(false);
        for (int n = 31; n <= 33; n++) {
            Made.paint(kept, 128);
            kept.fill(0, 0, 8, 4, 129);
            if (n == 31) {
                kept.fill(0, 0, 1, 1, 128);
            }
            if (n == 33) {
                kept.fill(0, 4, 1, 1, 129);
            }
            kept.code('p', 0, 0);
            mode("the modes 0 and 4 with " + n, kept, 0, 0, n > 32 ? 4 : 0);
        }
    }

    private static void lowestOfKeptModes() {
        // 48 and 52 are kept; of 64 pixels n are 48, the others 52: the modes 4, 5 and 6 cost 4 times (64 less n),
        // 4 times n, and 2 times 64
        BlockCast cast = Made.flat(48, 1, 0);
        cast.code('i', 0, 0);
        Made.paint(cast, 52);
        cast.code('i', 0, 0);
        cast.setKept(false);
        for (int n = 31; n <= 33; n++) {
            Made.paint(cast, 52);
            cast.fill(0, 0, 8, 4, 48);
            if (n == 31) {
                cast.fill(0, 0, 1, 1, 52);
            }
            if (n == 33) {
                cast.fill(0, 4, 1, 1, 48);
            }
            cast.code('b', 1, 0);
            Check.sentence("Guesses", "of several the lowest one");
            mode("the modes 4, 5 and 6 with " + n, cast, 0, 0, n < 32 ? 5 : 4);
            cast.code('b', 0, 1);
            mode("the other way with " + n, cast, 0, 0, n > 32 ? 5 : 4);
        }
        Check.sentence("Pictures", "the first and the second one, which may be the same");
        Made.paint(cast, 48);
        cast.code('b', 1, 1);
        mode("of the same picture twice the lowest", cast, 0, 0, 4);
        Check.missing("so that there is no second vector", () -> cast.vectorAt(lastPicture(cast), 0, 0, true));
    }

    private static void border() {
        Check.sentence("Guesses", "The border of a part is made of the n pixels above it, the n pixels to its "
                + "left, and the corner; a pixel that is not in the slice counts as 128");
        BlockCast cast = Made.flat(131, 1, 0);
        cast.code('i', 0, 0);
        levelAt("the block 0 is guessed as 128", cast, 0, 0, 12);
        // with 60 at its left, the block 1 has the guesses 94, 128, 60 and, as the corner is 128, 60
        Made.quarters(cast, 60, 188, 60, 188);
        cast.code('i', 0, 0);
        mode("no corner above the picture", cast, 8, 0, 1);
        levelAt("above it is 128", cast, 8, 0, 240);
        // with 60 above, the block 2 has the guesses 94, 60, 128 and, as the corner is 128, 60
        Made.quarters(cast, 60, 60, 188, 188);
        cast.code('i', 0, 0);
        mode("no corner left of the picture", cast, 0, 8, 2);
        levelAt("left of it is 128", cast, 0, 8, 240);
        // the n pixels above are those of the part alone: the block 1's are not of the block 2's border
        Made.quarters(cast, 60, 250, 94, 94);
        cast.code('i', 0, 0);
        mode("60 above, and 128 at the left", cast, 0, 8, 0);
        levelAt("their mean is 94", cast, 0, 8, 0);
    }

    private static void borderOfTheLowerSlice() {
        Check.sentence("Guesses", "a pixel that is not in the slice counts as 128");
        BlockCast cast = Made.flat(0, 1, 0);
        cast.setSlices(2);
        // the block 3 has 100 at its left; with the corner of the block 0, the mode 3 would guess 168
        Made.quarters(cast, 60, 60, 100, 168);
        cast.code('i', 0, 0);
        mode("no corner in the other slice", cast, 8, 8, 1);
        levelAt("above it is 128", cast, 8, 8, 160);
        Made.quarters(cast, 60, 60, 60, 60);
        cast.code('i', 0, 0);
        mode("nothing above in the other slice", cast, 0, 8, 0);
        levelAt("from 128 to 60", cast, 0, 8, -272);
        cast.setSlices(1);
        cast.code('i', 0, 0);
        levelAt("with one slice there is", cast, 0, 8, 0);
    }

    private static void bordersAreAsBuilt() {
        Check.sentence("Guesses", "others are as they are built");
        // 16 times 5 plus 40, divided by 160, is 0: the block 0 is built as 128
        BlockCast cast = Made.flat(128, 40, 0);
        cast.fill(0, 0, 8, 8, 133);
        cast.code('i', 0, 0);
        builtAt("not what the canvas has", cast, 7, 3, 128);
        mode("but what is built", cast, 8, 0, 0);
        levelAt("exact", cast, 8, 0, 0);
        Check.due("the error is that of the block 0", () -> cast.errorOf(0), 64 * 25);
    }

    private static void meanOfBorders() {
        Check.sentence("Guesses", "0, each pixel is the sum of both borders plus n, divided by 2 times n");
        // at the left 128 plus d, above 128: 8 d plus 8, divided by 16, rounded down
        int[][] means = {{4, 2}, {5, 3}, {6, 3}, {7, 4}, {-4, -2}, {-5, -2}, {-6, -3}, {-7, -3}};
        for (int[] m : means) {
            BlockCast cast = Made.flat(128, 1, 0);
            cast.fill(0, 0, 8, 8, 128 + m[0]);
            cast.fill(8, 0, 8, 8, 128 + m[1]);
            cast.code('i', 0, 0);
            mode("128 and 128 plus " + m[0], cast, 8, 0, 0);
            levelAt("is exact", cast, 8, 0, 0);
        }
        // rows that are flat from side to side are exact at the coarseness 1: a sum of 7 more, plus 8, divided by 16, is 0
        int[][] sums = {{7, 0}, {8, 1}, {23, 1}, {24, 2}, {-8, 0}, {-9, -1}, {-24, -1}, {-25, -2}};
        for (int[] s : sums) {
            BlockCast cast = Made.flat(128, 1, 0);
            cast.fill(0, 5, 8, 1, 128 + s[0]);
            cast.fill(8, 0, 8, 8, 128 + s[1]);
            cast.code('i', 0, 0);
            builtAt("the row is exact", cast, 7, 5, 128 + s[0]);
            mode("128 and in all " + s[0], cast, 8, 0, 0);
            levelAt("is exact", cast, 8, 0, 0);
        }
        // the same for parts of 4: 4 d plus 4, divided by 8
        BlockCast small = Made.flat(128, 1, 1);
        small.fill(0, 0, 4, 4, 133);
        small.fill(4, 0, 4, 4, 131);
        small.fill(0, 4, 8, 4, 200);
        small.code('i', 0, 0);
        Check.due("is split", () -> small.partAt(0, 4, 0), 4);
        mode("128 and 133", small, 4, 0, 0);
        levelAt("is exact", small, 4, 0, 0);
    }

    private static void planeIsHeld() {
        Check.sentence("Guesses", "3, the sum of both less the corner, held within 0 and 255");
        BlockCast cast = Made.flat(0, 1, 0);
        Made.quarters(cast, 100, 250, 250, 255);
        cast.code('i', 0, 0);
        mode("250 and 250 less 100", cast, 8, 8, 3);
        levelAt("is 255", cast, 8, 8, 0);
        Made.quarters(cast, 250, 10, 10, 0);
        cast.code('i', 0, 0);
        mode("10 and 10 less 250", cast, 8, 8, 3);
        levelAt("is 0", cast, 8, 8, 0);
        Made.quarters(cast, 100, 177, 178, 255);
        cast.code('i', 0, 0);
        mode("177 and 178 less 100", cast, 8, 8, 3);
        levelAt("is 255 by itself", cast, 8, 8, 0);
    }

    private static void meanOfBoth() {
        Check.sentence("Guesses", "the mean of the two guesses, a half being rounded up, only for 'b'");
        int[][] means = {{50, 52, 51}, {50, 53, 52}, {53, 50, 52}, {0, 1, 1}, {255, 254, 255}, {0, 255, 128}};
        for (int[] m : means) {
            BlockCast cast = Made.flat(m[0], 1, 0);
            cast.setSlices(2);
            cast.code('i', 0, 0);
            Made.paint(cast, m[1]);
            cast.code('i', 0, 0);
            Made.paint(cast, m[2]);
            cast.fill(0, 0, 8, 8, 7);
            cast.code('b', 0, 1);
            if (m[2] != m[0] && m[2] != m[1] && m[2] != 128) {
                mode("of " + m[0] + " and " + m[1], cast, 0, 8, 6);
            }
            levelAt("nothing is left", cast, 0, 8, 0);
            builtAt("it is " + m[2], cast, 0, 8, m[2]);
        }
    }

    private static void costOfTheMode() {
        Check.sentence("Guesses", "plus 2 times the mode for the modes 0 to 3");
        // at the left 131, above 128: the mode 0 guesses 130; with n pixels of 130 and the others 131, the mode 0 costs
        // 64 less n, and the mode 2 costs n plus 4
        for (int n = 29; n <= 31; n++) {
            BlockCast cast = Made.flat(131, 1, 0);
            cast.fill(8, 0, 8, 3, 130);
            cast.fill(8, 3, n - 24, 1, 130);
            cast.code('i', 0, 0);
            mode("the modes 0 and 2 with " + n, cast, 8, 0, n >= 30 ? 0 : 2);
        }
        Check.sentence("Guesses", "The cost is the sum of the differences between the canvas and the guess, "
                + "without signs");
        BlockCast cast = Made.flat(128, 1, 0);
        cast.fill(0, 0, 8, 8, 138);
        // half of the pixels are 10 more and half 10 less than 128: with signs the mode 1 would cost 2, but it costs 642,
        // and the mode 0, whose guess is 133, costs 640
        cast.fill(8, 0, 4, 8, 138);
        cast.fill(12, 0, 4, 8, 118);
        cast.code('i', 0, 0);
        mode("128 above, 138 at the left, 133 their mean", cast, 8, 0, 0);
        cast.fill(8, 0, 5, 8, 138);
        cast.code('i', 0, 0);
        mode("and with 5 columns of 138", cast, 8, 0, 2);
    }

    /** A 'p' picture of a plane on a kept one that is more by a number; the mode 3 guesses its block 3 for 6. */
    private static int modeOfPlane(int more, int tools) {
        BlockCast cast = Made.flat(0, 1, tools);
        cast.slope(60, 2, 4);
        cast.code('i', 0, 0);
        cast.slope(60 - more, 2, 4);
        cast.code('p', 0, 0);
        Check.due("the kept plane is exact", () -> cast.errorOf(0), 0);
        Check.due("and this one", () -> cast.errorOf(1), 0);
        return cast.modeAt(1, 8, 8);
    }

    private static void costOfTheVector() {
        Check.sentence("Guesses", "and plus the lengths of the vectors that it uses for the others; the length "
                + "of a vector is the sum of both of its numbers without signs");
        Check.due("0, 0 costs 0", () -> modeOfPlane(0, 0), 4);
        Check.due("0, -2 costs 2", () -> modeOfPlane(4, 0), 4);
        Check.due("-2, -2 costs 4", () -> modeOfPlane(6, 0), 4);
        Check.due("0, -4 costs 4", () -> modeOfPlane(8, 0), 4);
        Check.due("-2, -4 costs 6, as does the mode 3", () -> modeOfPlane(10, 0), 3);
        Check.due("0, -6 costs 6, as does the mode 3", () -> modeOfPlane(12, 0), 3);
        Check.due("-2, -6 costs 8", () -> modeOfPlane(14, 0), 3);
        Check.due("0, -5 costs 5", () -> modeOfPlane(10, 4), 4);
        Check.due("0, -6 costs 6", () -> modeOfPlane(12, 4), 3);
        Check.due("-1, -6 costs 7", () -> modeOfPlane(13, 4), 3);
    }

    /**
     * Codes a block 3 of one value, leaning on kept pictures that have it, or values about it, 4 pixels to the left: so
     * the vectors are -8, 0. Above it are some columns of 1 more, each of which makes the mode 1 cost 8 and 2 in all.
     */
    private static BlockCast byColumns(char kind, int firstValue, int secondValue, int value, int columns) {
        BlockCast cast = Made.flat(secondValue, 1, 4);
        cast.fill(12, 0, 4, 16, 20);
        cast.code('i', 0, 0);
        Made.paint(cast, firstValue);
        cast.fill(12, 0, 4, 16, 20);
        cast.code('i', 0, 0);
        Made.quarters(cast, value, value, 60, value);
        for (int i = 0; i < columns; i++) {
            cast.fill(9 + 2 * i, 0, 1, 8, value + 1);
        }
        cast.code(kind, 0, 1);
        Check.due("all is exact", () -> cast.errorOf(0) + cast.errorOf(1) + cast.errorOf(2), 0);
        return cast;
    }

    private static void costOfBothVectors() {
        Check.sentence("Guesses", "and plus the lengths of the vectors that it uses for the others");
        mode("the vector of the first for 8, the mode 1 for 2", byColumns('p', 160, 220, 160, 0), 8, 8, 1);
        mode("or for 10", byColumns('p', 160, 220, 160, 1), 8, 8, 4);
        mode("the vector of the second for 8, the mode 1 for 2", byColumns('b', 220, 160, 160, 0), 8, 8, 1);
        mode("or for 10", byColumns('b', 220, 160, 160, 1), 8, 8, 5);
        mode("both vectors for 16, the mode 1 for 10", byColumns('b', 150, 160, 155, 1), 8, 8, 1);
        BlockCast both = byColumns('b', 150, 160, 155, 2);
        mode("or for 18", both, 8, 8, 6);
        Check.due("the first one's", () -> both.vectorAt(2, 8, 8, false), 8);
        Check.due("the second one's", () -> both.vectorAt(2, 8, 8, true), 8);
    }

    // ---- vectors

    /** Values that no move can make alike. */
    private static int noise(int x, int y) {
        return 40 + (x * x * 7 + y * y * 13 + x * y * 29 + 5 * x) % 173;
    }

    /** A coder that keeps noise, and what it built of it at 0 to 15 for rows and columns from a first one on. */
    private static BlockCast noisy(int tools) {
        BlockCast cast = Made.flat(0, 1, tools);
        cast.grain(99, 99);
        cast.move(3, 3);
        cast.grain(77, 99);
        cast.grain(55, 60);
        cast.code('i', 0, 0);
        cast.setKept(false);
        return cast;
    }

    private static void vectorsReach() {
        Check.sentence("Vectors", "A vector has two numbers from -8 to 8, in halves of pixels");
        Check.sentence("Promise 24", "Returns 100 times the first number plus 8, plus the second number plus 8.");
        int[][] moves = {{4, 4, 8, 8, 0}, {-4, -4, 0, 0, 1616}, {4, -4, 8, 0, 16}, {-4, 4, 0, 8, 1600}, {0, 4, 8, 8, 800},
            {4, 0, 8, 8, 8}, {0, -4, 0, 0, 816}, {-4, 0, 0, 0, 1608}, {3, 1, 8, 8, 206}};
        for (int[] m : moves) {
            BlockCast cast = noisy(0);
            cast.move(m[0], m[1]);
            cast.code('p', 0, 0);
            Check.due("moved by " + m[0] + ", " + m[1], () -> cast.vectorAt(1, m[2], m[3], false), m[4]);
        }
        int[][] far = {{5, 0, 8, 8}, {0, 5, 8, 8}, {-5, 0, 0, 0}, {0, -5, 0, 0}};
        for (int[] m : far) {
            BlockCast cast = noisy(4);
            cast.move(m[0], m[1]);
            cast.code('p', 0, 0);
            Check.due("too far: " + m[0] + ", " + m[1], () -> hasNoLevels(cast, 1, m[2], m[3]), false);
        }
    }

    private static boolean hasNoLevels(BlockCast cast, int picture, int left, int top) {
        for (int place = 0; place < 64; place++) {
            if (cast.levelAt(picture, left + place % 8, top + place / 8) != 0) {
                return false;
            }
        }
        return true;
    }

    private static void evenVectors() {
        Check.sentence("Vectors", "both even if vectors may not be odd");
        for (int tools : new int[] {0, 4}) {
            BlockCast cast = Made.flat(0, 1, tools);
            cast.slope(40, 2, 0);
            cast.code('i', 0, 0);
            cast.slope(41, 2, 0);
            cast.code('p', 0, 0);
            Check.due("the first number with " + tools, () -> cast.vectorAt(1, 0, 0, false), tools == 4 ? 908 : 808);
            cast.slope(40, 0, 2);
            cast.code('i', 0, 0);
            cast.slope(41, 0, 2);
            cast.code('p', 0, 0);
            Check.due("the second number with " + tools, () -> cast.vectorAt(3, 0, 0, false), tools == 4 ? 809 : 808);
        }
    }

    /**
     * Paints a block as a vector guesses it from noise that is kept, by the document's words, and codes it: it is
     * found, and nothing is left.
     */
    private static void findHalf(int left, int top, int right, int down) {
        BlockCast cast = noisy(4);
        int[][] built = new int[12][12];
        int fromX = left == 0 ? 0 : 4;
        int fromY = top == 0 ? 0 : 4;
        for (int y = 0; y < 12; y++) {
            for (int x = 0; x < 12; x++) {
                built[y][x] = cast.built(0, fromX + x, fromY + y);
            }
        }
        for (int y = top; y < top + 8; y++) {
            for (int x = left; x < left + 8; x++) {
                int px = Math.max(0, Math.min(30, 2 * x + right));
                int py = Math.max(0, Math.min(30, 2 * y + down));
                int a = built[py / 2 - fromY][px / 2 - fromX];
                int b = built[py / 2 - fromY][(px + 1) / 2 - fromX];
                int c = built[(py + 1) / 2 - fromY][px / 2 - fromX];
                int d = built[(py + 1) / 2 - fromY][(px + 1) / 2 - fromX];
                int value = px % 2 == 0 && py % 2 == 0 ? a : py % 2 == 0 ? (a + b + 1) / 2
                        : px % 2 == 0 ? (a + c + 1) / 2 : (a + b + c + d + 2) / 4;
                cast.fill(x, y, 1, 1, value);
            }
        }
        cast.code('p', 0, 0);
        String what = left + ", " + top + " by " + right + ", " + down;
        Check.due(what, () -> cast.vectorAt(1, left, top, false), 100 * (right + 8) + down + 8);
        Check.due(what + ", what is left", () -> hasNoLevels(cast, 1, left, top), true);
    }

    private static void halfPlaces() {
        Check.sentence("Vectors", "A pixel x, y is guessed by a vector from the place 2 times x plus the one "
                + "number, 2 times y plus the other: if both are even, it is the pixel at half of them; if just "
                + "one is odd, the mean of the two next pixels, a half being rounded up; if both are, the sum of "
                + "the four next pixels plus 2, divided by 4, rounded down");
        findHalf(0, 0, 2, 4);
        findHalf(0, 0, 1, 0);
        findHalf(0, 0, 0, 1);
        findHalf(0, 0, 1, 1);
        findHalf(0, 0, 7, 3);
        findHalf(0, 0, 3, 8);
        findHalf(8, 8, -1, 0);
        findHalf(8, 8, 0, -1);
        findHalf(8, 8, -1, -1);
        findHalf(8, 8, -8, -7);
        findHalf(8, 0, -3, 5);
        findHalf(0, 8, 5, -6);
    }

    private static void outsideIsNearest() {
        Check.sentence("Vectors", "places outside of the picture have the nearest pixel inside");
        findHalf(0, 0, -8, -8);
        findHalf(0, 0, -1, -1);
        findHalf(0, 0, -3, 2);
        findHalf(0, 0, 2, -5);
        findHalf(8, 8, 8, 8);
        findHalf(8, 8, 1, 1);
        findHalf(8, 8, 1, 0);
        findHalf(8, 8, 0, 1);
        findHalf(8, 8, 7, -1);
        findHalf(8, 0, 5, -5);
        findHalf(0, 8, -7, 7);
    }

    private static void firstOfSeveralVectors() {
        Check.sentence("Vectors", "The vector for a kept picture is that with the least cost by itself, its "
                + "length included");
        BlockCast flat = Made.flat(90, 1, 4);
        flat.code('i', 0, 0);
        flat.code('p', 0, 0);
        Check.due("of all the same the shortest", () -> flat.vectorAt(1, 0, 0, false), 808);
        Check.sentence("Vectors", "of several the first one, by rising second numbers, then by rising first ones");
        // on a plane with the steps 2 and 2, what is 2 more is at 2, 0 and at 0, 2, and with odd ones at 1, 1
        BlockCast plane = Made.flat(0, 1, 0);
        plane.slope(60, 2, 2);
        plane.code('i', 0, 0);
        plane.slope(58, 2, 2);
        plane.code('p', 0, 0);
        Check.due("0, -2 is ahead of -2, 0", () -> plane.vectorAt(1, 8, 8, false), 806);
        plane.slope(62, 2, 2);
        plane.setKept(false);
        plane.code('p', 1, 0);
        Check.due("2, 0 is ahead of 0, 2", () -> plane.vectorAt(2, 0, 0, false), 1008);
        plane.setTools(4);
        plane.slope(62, 2, 2);
        plane.code('p', 1, 0);
        Check.due("2, 0 is ahead of 1, 1", () -> plane.vectorAt(3, 0, 0, false), 1008);
        plane.slope(58, 2, 2);
        plane.code('p', 1, 0);
        Check.due("0, -2 is ahead of -1, -1", () -> plane.vectorAt(4, 8, 8, false), 806);
        // columns in turn: in a part of 4 inside of the picture, what is to the left is as what is to the right
        BlockCast columns = Made.flat(0, 1, 1);
        columns.setSlices(2);
        for (int x = 0; x < 16; x += 2) {
            columns.fill(x, 0, 1, 16, 200);
        }
        columns.code('i', 0, 0);
        columns.move(1, 0);
        columns.code('p', 0, 0);
        Check.due("-2, 0 is ahead of 2, 0", () -> columns.vectorAt(1, 8, 8, false), 608);
    }

    private static void vectorsOfBoth() {
        Check.sentence("Vectors", "The mode 6 uses the vectors of the modes 4 and 5.");
        // two noisy pictures whose squares are alike but for 10; the canvas lies between them, moved
        BlockCast cast = Made.flat(0, 4, 0);
        paintSquares(cast, 0);
        cast.code('i', 0, 0);
        paintSquares(cast, 10);
        cast.code('i', 0, 0);
        Check.due("both are exact", () -> cast.errorOf(0) + cast.errorOf(1), 0);
        paintSquares(cast, 5);
        cast.move(2, 3);
        cast.setKept(false);
        cast.code('b', 1, 0);
        mode("between both", cast, 8, 8, 6);
        Check.due("the first one's", () -> cast.vectorAt(2, 8, 8, false), 402);
        Check.due("the second one's", () -> cast.vectorAt(2, 8, 8, true), 402);
        levelAt("exact", cast, 8, 8, 0);
        cast.code('p', 1, 0);
        Check.due("the mode 4's", () -> cast.vectorAt(3, 8, 8, false), 402);
        cast.code('p', 0, 0);
        Check.due("the mode 4's of the other one", () -> cast.vectorAt(4, 8, 8, false), 402);
    }

    /** All is flat but for one row or column, which alone tells by which vector it is guessed. */
    private static void eachRowAndColumnCounts() {
        Check.sentence("Vectors", "The vector for a kept picture is that with the least cost by itself");
        for (int line = 0; line < 16; line++) {
            int to = line;
            int block = line / 8 * 8;
            BlockCast rows = Made.flat(128, 1, 0);
            BlockCast columns = Made.flat(128, 1, 0);
            for (int i = 0; i < 16; i++) {
                int value = noise(i, 3);
                rows.fill(i, to, 1, 1, value);
                columns.fill(to, i, 1, 1, value);
            }
            rows.code('i', 0, 0);
            columns.code('i', 0, 0);
            rows.setKept(false);
            columns.setKept(false);
            rows.move(-2, 0);
            columns.move(0, -2);
            rows.code('p', 0, 0);
            columns.code('p', 0, 0);
            Check.due("the row " + to + ", to the left", () -> rows.vectorAt(1, 0, block, false), 1208);
            Check.due("the column " + to + ", upwards", () -> columns.vectorAt(1, block, 0, false), 812);
            rows.move(4, 0);
            columns.move(0, 4);
            rows.code('p', 0, 0);
            columns.code('p', 0, 0);
            Check.due("the row " + to + ", to the right", () -> rows.vectorAt(2, 8, block, false), 408);
            Check.due("the column " + to + ", downwards", () -> columns.vectorAt(2, block, 8, false), 804);
        }
    }

    /** A block that is flat, as in the kept picture, is not moved, though what is below it is. */
    private static void noOtherPixelCounts() {
        Check.sentence("Vectors", "with the least cost by itself, its length included");
        BlockCast cast = Made.flat(0, 1, 0);
        Made.paint(cast, 50);
        cast.fill(0, 8, 16, 8, 90);
        cast.fill(3, 8, 2, 8, 160);
        cast.code('i', 0, 0);
        cast.move(2, 0);
        cast.code('p', 0, 0);
        Check.due("the block 0", () -> cast.vectorAt(lastPicture(cast), 0, 0, false), 808);
        Check.due("the block below it", () -> cast.vectorAt(lastPicture(cast), 0, 8, false), 408);
    }

    /** All vectors fail for one row, and so the shortest one is taken, for the first and for the last row, too. */
    private static void noRowIsLeftOut() {
        Check.sentence("Vectors", "with the least cost by itself, its length included");
        for (int row = 0; row < 16; row++) {
            int of = row;
            int block = row / 8 * 8;
            BlockCast cast = Made.flat(100, 1, 4);
            cast.setSlices(2);
            cast.code('i', 0, 0);
            cast.fill(0, of, 16, 1, 200);
            cast.code('p', 0, 0);
            Check.due("the row " + of + " at the left", () -> cast.vectorAt(1, 0, block, false), 808);
            cast.fill(0, block, 8, 8, 20);
            cast.code('p', 1, 0);
            Check.due("the row " + of + " at the right", () -> cast.vectorAt(2, 8, block, false), 808);
        }
    }

    private static void eachKeptPictureByItself() {
        Check.sentence("Vectors", "The vector for a kept picture is that with the least cost by itself");
        BlockCast cast = noisy(0);
        cast.setKept(true);
        cast.move(3, 1);
        String moved = Made.canvas(cast);
        Made.paint(cast, 250);
        cast.code('i', 0, 0);
        cast.setKept(false);
        for (int place = 136; place < 256; place++) {
            int value = Integer.parseInt(moved.split(" ")[place]);
            cast.fill(place % 16, place / 16, 1, 1, value);
        }
        cast.code('b', 0, 1);
        mode("the second one is the noisy one", cast, 8, 8, 5);
        Check.due("with its vector", () -> cast.vectorAt(2, 8, 8, true), 206);
        cast.code('b', 1, 0);
        mode("the first one is", cast, 8, 8, 4);
        Check.due("with its vector", () -> cast.vectorAt(3, 8, 8, false), 206);
    }

    /** Squares of 4 times 4 pixels, each of one value, which no move makes alike. */
    private static void paintSquares(BlockCast cast, int more) {
        for (int i = 0; i < 16; i++) {
            cast.fill(i % 4 * 4, i / 4 * 4, 4, 4, noise(i % 4, i / 4) + more);
        }
    }

    // ---- levels

    private static void levelsAreRounded() {
        Check.sentence("Levels", "A level has the sign of the coefficient c, and is, without signs, c plus the "
                + "coarseness, divided by 4 times the coarseness, rounded down.");
        // a single pixel that is d more than its guess makes all coefficients d, but for their signs
        int[][] rows = {{1, 2, 0}, {1, 3, 1}, {1, 6, 1}, {1, 7, 2}, {1, 127, 32}, {2, 5, 0}, {2, 6, 1}, {2, 13, 1},
            {2, 14, 2}, {8, 23, 0}, {8, 24, 1}, {8, 55, 1}, {8, 56, 2}, {40, 119, 0}, {40, 120, 1}};
        for (int[] r : rows) {
            for (int sign = -1; sign <= 1; sign += 2) {
                BlockCast cast = Made.flat(128, r[0], 0);
                cast.fill(0, 0, 1, 1, 128 + sign * r[1]);
                cast.code('i', 0, 0);
                levelAt(sign * r[1] + " at the coarseness " + r[0], cast, 0, 0, sign * r[2]);
                levelAt("and at the place 3, 3", cast, 3, 3, sign * r[2]);
            }
        }
        BlockCast white = Made.flat(255, 1, 0);
        white.code('i', 0, 0);
        levelAt("255 from 128", white, 0, 0, 508);
        white.fill(0, 0, 4, 4, 0);
        white.code('p', 0, 0);
        levelAt("0 from 255, which no guess can have more", white, 0, 0, -1020);
        builtAt("built of it", white, 3, 3, 0);
    }

    private static void placesOfLevels() {
        Check.sentence("Levels", "The coefficients of a square D are H D H, where H has the rows 1 1 1 1, 1 1 -1 "
                + "-1, 1 -1 -1 1 and 1 -1 1 -1.");
        Check.sentence("Levels", "The place u, v of a level is that of its pixel, u to the right.");
        String[] rows = {"++++", "++--", "+--+", "+-+-"};
        for (int u = 0; u < 4; u++) {
            for (int v = 0; v < 4; v++) {
                // the square 1, 1 is 100 plus 3 times the product of two rows of H
                BlockCast cast = Made.flat(128, 4, 0);
                for (int place = 0; place < 16; place++) {
                    boolean isMore = rows[u].charAt(place % 4) == rows[v].charAt(place / 4);
                    cast.fill(4 + place % 4, 4 + place / 4, 1, 1, isMore ? 131 : 125);
                }
                cast.code('i', 0, 0);
                for (int place = 0; place < 256; place++) {
                    int x = place % 16;
                    int y = place / 16;
                    if (x / 4 == 1 && y / 4 == 1) {
                        levelAt("the place " + u + ", " + v, cast, x, y, x == 4 + u && y == 4 + v ? 3 : 0);
                    }
                }
                Check.due("is exact", () -> cast.errorOf(0), 0);
            }
        }
        Check.sentence("Levels", "The differences of a part are taken by squares of 4 times 4, in the order of "
                + "blocks.");
        BlockCast cast = Made.flat(128, 4, 0);
        cast.fill(4, 0, 4, 4, 133);
        cast.fill(0, 4, 4, 4, 124);
        cast.code('i', 0, 0);
        levelAt("the square 0", cast, 0, 0, 0);
        levelAt("the square 1", cast, 4, 0, 5);
        levelAt("the square 2", cast, 0, 4, -4);
        levelAt("the square 3", cast, 4, 4, 0);
    }

    private static void builtIsRoundedDown() {
        Check.sentence("Levels", "Built back, the coefficient is 4 times the coarseness times the level, and the "
                + "difference is that in H C H plus 8, divided by 16, rounded down");
        // n pixels of a square are 1 more or less: the sum is n, and all other coefficients are too small for a level
        int[][] sums = {{3, -1, 9, 127}, {3, 1, 9, 129}, {5, -1, 15, 127}, {5, 1, 15, 129}};
        for (int[] s : sums) {
            BlockCast cast = Made.flat(128, s[0], 0);
            for (int place = 0; place < s[2]; place++) {
                int mixed = place * 11 % 16;
                cast.fill(mixed % 4, mixed / 4, 1, 1, 128 + s[1]);
            }
            cast.code('i', 0, 0);
            levelAt("the level of " + s[1] * s[2], cast, 0, 0, s[1]);
            levelAt("and no other", cast, 1, 0, 0);
            builtAt("built of it", cast, 0, 0, s[3]);
            builtAt("everywhere", cast, 3, 3, s[3]);
        }
    }

    private static void builtIsHeld() {
        Check.sentence("Levels", "the pixel is built as the guess plus this, held within 0 and 255");
        BlockCast white = Made.flat(255, 30, 0);
        white.code('i', 0, 0);
        levelAt("from 128 to 255", white, 0, 0, 17);
        builtAt("128 and 128", white, 0, 0, 255);
        BlockCast black = Made.flat(0, 40, 0);
        black.code('i', 0, 0);
        levelAt("from 128 to 0", black, 0, 0, -13);
        builtAt("128 less 130", black, 0, 0, 0);
        Check.due("is exact", () -> black.errorOf(0), 0);
    }

    // ---- smoothing

    private static void pair(int coarseness, int a, int b, int wantA, int wantB) {
        String what = a + " and " + b + " at " + coarseness;
        BlockCast across = Made.flat(0, coarseness, 2);
        Made.quarters(across, a, b, a, b);
        across.code('i', 0, 0);
        builtAt(what + ", a", across, 7, 3, wantA);
        builtAt(what + ", b", across, 8, 12, wantB);
        BlockCast down = Made.flat(0, coarseness, 2);
        Made.quarters(down, a, a, b, b);
        down.code('i', 0, 0);
        builtAt(what + " below, a", down, 3, 7, wantA);
        builtAt(what + " below, b", down, 12, 8, wantB);
    }

    private static void smoothedPairs() {
        Check.sentence("Smoothing", "if they differ by less than the coarseness plus 2, a gets a quarter of b "
                + "less a more, cut towards 0, and b the same less");
        pair(4, 128, 131, 128, 131);
        pair(4, 128, 132, 129, 131);
        pair(4, 128, 133, 129, 132);
        pair(4, 128, 134, 128, 134);
        pair(4, 128, 124, 127, 125);
        pair(4, 128, 123, 127, 124);
        pair(4, 128, 122, 128, 122);
        pair(8, 128, 136, 130, 134);
        pair(8, 128, 138, 128, 138);
        pair(8, 128, 122, 127, 123);
        pair(8, 128, 118, 128, 118);
        pair(40, 128, 168, 138, 158);
        pair(40, 128, 178, 128, 178);
        pair(1, 128, 130, 128, 130);
        pair(2, 128, 131, 128, 131);
        pair(3, 128, 132, 129, 131);
        pair(3, 128, 133, 128, 133);
        Check.sentence("Smoothing", "its edges are smoothed, if they are to be");
        BlockCast cast = Made.flat(0, 8, 5);
        Made.quarters(cast, 128, 136, 128, 136);
        cast.code('i', 0, 0);
        builtAt("they are not", cast, 7, 0, 128);
    }

    private static void smoothedEdges() {
        Check.sentence("Smoothing", "first, for x of 4, 8 and 12, and each y, the pixels a at x - 1 and b at x");
        for (int edge = 4; edge <= 12; edge += 4) {
            int x = edge;
            BlockCast cast = Made.flat(128, 8, 2);
            cast.fill(x, 0, 16 - x, 16, 136);
            cast.code('i', 0, 0);
            for (int row = 0; row < 16; row++) {
                int y = row;
                Check.due("across x of " + x + " at " + y, () -> cast.built(0, x - 2, y) + " "
                        + cast.built(0, x - 1, y) + " " + cast.built(0, x, y) + " " + cast.built(0, x + 1, y),
                        "128 130 134 136");
            }
        }
        for (int slices = 1; slices <= 2; slices++) {
            Check.sentence("Smoothing", "then, for y of 4, 8 and 12, but not 8 if there are two slices, and each "
                    + "x, the pixels a at y - 1 and b at y");
            for (int edge = 4; edge <= 12; edge += 4) {
                int y = edge;
                BlockCast cast = Made.flat(128, 8, 2);
                cast.setSlices(slices);
                cast.fill(0, y, 16, 16 - y, 136);
                cast.code('i', 0, 0);
                String want = y == 8 && slices == 2 ? "128 128 136 136" : "128 130 134 136";
                for (int column = 0; column < 16; column++) {
                    int x = column;
                    Check.due("across y of " + y + " at " + x + ", slices " + slices, () -> cast.built(0, x, y - 2)
                            + " " + cast.built(0, x, y - 1) + " " + cast.built(0, x, y) + " " + cast.built(0, x, y + 1),
                            want);
                }
            }
        }
        Check.sentence("Smoothing", "for x of 4, 8 and 12, and each y");
        BlockCast dark = Made.flat(8, 8, 2);
        dark.code('i', 0, 0);
        Check.due("no edge is at the sides of the picture", () -> dark.errorOf(0), 0);
        BlockCast slope = Made.flat(0, 8, 2);
        slope.slope(60, 0, 3);
        slope.code('i', 0, 0);
        BlockCast rough = Made.flat(0, 8, 0);
        rough.slope(60, 0, 3);
        rough.code('i', 0, 0);
        for (int row = 0; row < 16; row++) {
            int y = row;
            Check.due("each x is smoothed alike, at " + y, () -> slope.built(0, 0, y), slope.built(0, 1, y));
            if (row % 4 == 1 || row % 4 == 2) {
                Check.due("no edge is at " + y, () -> slope.built(0, 1, y), rough.built(0, 1, y));
            }
        }
    }

    private static void smoothedInOrder() {
        Check.sentence("Smoothing", "first, for x of 4, 8 and 12");
        // around the middle: 128 138 above 136 144. First across: 128 138 above 138 142; then down: 138 and 142 alone
        BlockCast cast = Made.flat(0, 8, 2);
        Made.quarters(cast, 128, 138, 136, 144);
        cast.code('i', 0, 0);
        builtAt("left above", cast, 7, 7, 128);
        builtAt("right above", cast, 8, 7, 139);
        builtAt("left below", cast, 7, 8, 138);
        builtAt("right below", cast, 8, 8, 141);
        cast.setTools(0);
        cast.code('i', 0, 0);
        Check.due("all are exact without smoothing", () -> cast.errorOf(1), 0);
    }

    private static void smoothedIsLeantOn() {
        Check.sentence("Smoothing", "When all parts of a picture are built");
        // were the edges between the blocks 0, 1 and 2 smoothed at once, the block 3 would be guessed from other pixels
        BlockCast cast = Made.flat(0, 8, 2);
        Made.quarters(cast, 128, 136, 136, 144);
        cast.code('i', 0, 0);
        mode("the plane is exact", cast, 8, 8, 3);
        levelAt("as long as nothing is smoothed", cast, 8, 8, 0);
        Check.sentence("Smoothing", "The picture as it is then is the one that is kept, shown and leant on.");
        BlockCast kept = Made.flat(0, 8, 2);
        Made.quarters(kept, 128, 136, 128, 136);
        kept.code('i', 0, 0);
        kept.setTools(0);
        kept.fill(7, 0, 1, 16, 130);
        kept.fill(8, 0, 1, 16, 134);
        kept.code('p', 0, 0);
        mode("leant on", kept, 8, 8, 4);
        Check.due("exact", () -> kept.errorOf(1), 0);
        kept.send(0);
        Check.due("shown, a", () -> kept.shownAt(7, 5), 130);
        Check.due("shown, b", () -> kept.shownAt(8, 5), 134);
        kept.send(0);
        Check.due("kept by the decoder", () -> kept.shownAt(7, 5), 130);
    }
}
