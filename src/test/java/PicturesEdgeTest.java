/** The sentences of the promises 18 to 29, what is asked of coded pictures, each with a test of its own. */
final class PicturesEdgeTest {
    private static final int LEAST = Made.LEAST;
    private static final int MOST = Made.MOST;

    private PicturesEdgeTest() {
    }

    public static void main(String[] args) {
        noSuchPicture();
        noSuchPixel();
        pictureAndPixel();
        kindOf();
        coarsenessOf();
        bytes();
        byteAt();
        partAt();
        modeAt();
        vectorAt();
        levelAt();
        built();
        errorOf();
        heaviest();
        commonest();
        commonestOfAll();
        Check.end("PicturesEdgeTest");
    }

    /** Every call that asks a picture, with its number, and with a pixel where there is one. */
    private static Check.Call[] asking(BlockCast cast, int picture, int x, int y) {
        return new Check.Call[] {() -> cast.kindOf(picture), () -> cast.coarsenessOf(picture),
            () -> cast.bytes(picture, 0), () -> cast.byteAt(picture, 0, 0),
            () -> cast.partAt(picture, x, y), () -> cast.modeAt(picture, x, y),
            () -> cast.vectorAt(picture, x, y, false), () -> cast.vectorAt(picture, x, y, true),
            () -> cast.levelAt(picture, x, y), () -> cast.built(picture, x, y), () -> cast.errorOf(picture)};
    }

    private static final int[] PROMISES = {18, 19, 20, 21, 22, 23, 24, 24, 25, 26, 27};

    private static void noSuchPicture() {
        for (int coded : new int[] {0, 1, 3, 12}) {
            BlockCast cast = Made.flat(128, 8, 0);
            for (int i = 0; i < coded; i++) {
                cast.code('i', 0, 0);
            }
            cast.setBucket(1, 0);
            Check.told(() -> cast.code('i', 0, 0));
            for (int picture : new int[] {-1, coded, coded + 1, 12, 13, LEAST, MOST}) {
                Check.Call[] calls = asking(cast, picture, 0, 0);
                for (int i = 0; i < calls.length; i++) {
                    Check.sentence("Promise " + PROMISES[i], "if there is no such picture");
                    Check.outside("the picture " + picture + " of " + coded, calls[i]);
                }
            }
            if (coded > 0) {
                Check.Call[] calls = asking(cast, coded - 1, 0, 0);
                for (int i = 0; i < calls.length; i++) {
                    Check.sentence("Promise " + PROMISES[i], "the number of the picture");
                    Check.due("the last one of " + coded, calls[i], new Object[] {'i', 8, 6, 0, 8, 0,
                        "throws NoSuchElementException", "throws NoSuchElementException", 0, 128, 0}[i]);
                }
            }
        }
    }

    private static void noSuchPixel() {
        BlockCast cast = Made.flat(128, 8, 0);
        cast.code('i', 0, 0);
        for (int[] w : Made.wrongPixels()) {
            Check.Call[] calls = asking(cast, 0, w[0], w[1]);
            for (int i = 4; i < 10; i++) {
                Check.sentence("Promise " + PROMISES[i], "if there is no such picture or pixel");
                Check.outside("the pixel " + w[0] + ", " + w[1], calls[i]);
            }
        }
    }

    private static void pictureAndPixel() {
        // a picture whose 256 pixels differ, at the coarseness 1: columns and rows can't be taken for each other
        BlockCast cast = Made.flat(0, 1, 0);
        cast.slope(0, 1, 16);
        cast.code('i', 0, 0);
        int[][] pixels = {{0, 0}, {15, 0}, {0, 15}, {15, 15}, {3, 12}};
        for (int[] p : pixels) {
            Check.sentence("Promise 26", "the column");
            Check.due("near the canvas " + p[0] + ", " + p[1],
                    () -> Math.abs(cast.built(0, p[0], p[1]) - p[0] - 16 * p[1]) <= 2, true);
        }
    }

    private static void kindOf() {
        BlockCast cast = Made.flat(128, 8, 0);
        cast.code('i', 0, 0);
        cast.code('p', 0, 0);
        cast.code('b', 0, 1);
        Check.sentence("Promise 18", "Returns the kind of a picture.");
        Check.sentence("Promise 18", "Returns 'i', 'p' or 'b'.");
        Check.due("0", () -> cast.kindOf(0), 'i');
        Check.due("1", () -> cast.kindOf(1), 'p');
        Check.due("2", () -> cast.kindOf(2), 'b');
    }

    private static void coarsenessOf() {
        BlockCast cast = Made.flat(128, 1, 0);
        cast.code('i', 0, 0);
        cast.setCoarseness(40);
        cast.code('i', 0, 0);
        cast.setCoarseness(20);
        Check.sentence("Promise 19", "Returns the coarseness of a picture.");
        Check.sentence("Promise 19", "Returns the coarseness.");
        Check.due("0", () -> cast.coarsenessOf(0), 1);
        Check.due("1", () -> cast.coarsenessOf(1), 40);
    }

    private static BlockCast oneAndTwoSlices() {
        BlockCast cast = Made.flat(128, 8, 0);
        cast.code('i', 0, 0);
        cast.setSlices(2);
        cast.fill(0, 8, 16, 8, 0);
        cast.code('i', 0, 0);
        return cast;
    }

    private static void bytes() {
        BlockCast cast = oneAndTwoSlices();
        Check.sentence("Promise 20", "Returns the number of bytes of a slice.");
        Check.sentence("Promise 20", "Returns the number of bytes.");
        Check.due("one slice", () -> cast.bytes(0, 0), 6);
        // 12 bits that are 0: R is not below 16777216 but once
        Check.due("the upper one", () -> cast.bytes(1, 0), 5);
        Check.due("the lower one", () -> cast.bytes(1, 1) > 5, true);
        Check.sentence("Promise 20", "the slice");
        Check.outside("1 of one", () -> cast.bytes(0, 1));
        Check.sentence("Promise 20", "if there is no such picture or slice");
        for (int slice : new int[] {-1, 2, 3, LEAST, MOST}) {
            Check.outside(slice + " of one", () -> cast.bytes(0, slice));
            Check.outside(slice + " of two", () -> cast.bytes(1, slice));
        }
        Check.outside("neither", () -> cast.bytes(2, 2));
    }

    private static void byteAt() {
        BlockCast cast = oneAndTwoSlices();
        Check.sentence("Promise 21", "Returns a byte of a slice.");
        Check.sentence("Promise 21", "Returns the byte, 0 to 255.");
        int count = cast.bytes(1, 1);
        for (int i = 0; i < count; i++) {
            int index = i;
            Check.due("the byte " + i, () -> cast.byteAt(1, 1, index) >= 0 && cast.byteAt(1, 1, index) <= 255, true);
        }
        Check.sentence("Promise 21", "the place of the byte, from 0");
        Check.due("the first one", () -> cast.byteAt(1, 1, 0) > 0, true);
        Check.sentence("Promise 21", "if there is no such picture, slice or byte");
        for (int index : new int[] {-1, count, count + 1, LEAST, MOST}) {
            Check.outside("the byte " + index + " of " + count, () -> cast.byteAt(1, 1, index));
        }
        for (int slice = 0; slice < 2; slice++) {
            int of = slice;
            int end = cast.bytes(1, slice);
            Check.due("the last byte of " + slice, () -> cast.byteAt(1, of, end - 1) >= 0, true);
            Check.outside("one more", () -> cast.byteAt(1, of, end));
        }
        Check.outside("one more of the only slice", () -> cast.byteAt(0, 0, 6));
        Check.sentence("Promise 21", "the slice");
        for (int slice : new int[] {-1, 2, LEAST, MOST}) {
            Check.outside("the slice " + slice, () -> cast.byteAt(1, slice, 0));
        }
        Check.outside("1 of one", () -> cast.byteAt(0, 1, 0));
    }

    private static void partAt() {
        BlockCast cast = Made.flat(100, 8, 1);
        cast.fill(8, 0, 1, 1, 200);
        cast.code('i', 0, 0);
        Check.sentence("Promise 22", "Returns the size of the part in which a pixel is.");
        Check.sentence("Promise 22", "Returns 8 or 4.");
        Check.sentence("Promise 22", "the column");
        Check.sentence("Promise 22", "the row");
        int[][] want = {{0, 0, 8}, {7, 7, 8}, {8, 0, 4}, {15, 7, 4}, {8, 8, 8}, {7, 0, 8}, {0, 8, 8}, {15, 15, 8}};
        for (int[] w : want) {
            Check.due(w[0] + ", " + w[1], () -> cast.partAt(0, w[0], w[1]), w[2]);
        }
    }

    private static void modeAt() {
        BlockCast cast = Made.flat(60, 4, 1);
        cast.fill(4, 4, 4, 4, 160);
        cast.code('i', 0, 0);
        Check.sentence("Promise 23", "Returns the mode of the part in which a pixel is.");
        Check.sentence("Promise 23", "Returns the mode.");
        Check.sentence("Promise 23", "the column");
        Check.sentence("Promise 23", "the row");
        int[][] want = {{0, 0, 0}, {3, 3, 0}, {4, 0, 2}, {7, 3, 2}, {0, 4, 1}, {3, 7, 1}, {4, 4, 0}, {7, 7, 0}};
        for (int[] w : want) {
            Check.due(w[0] + ", " + w[1], () -> cast.modeAt(0, w[0], w[1]), w[2]);
        }
    }

    private static void vectorAt() {
        BlockCast cast = Made.flat(50, 1, 0);
        cast.code('i', 0, 0);
        Made.paint(cast, 101);
        cast.code('i', 0, 0);
        cast.setKept(false);
        Made.quarters(cast, 50, 101, 76, 128);
        cast.code('b', 1, 0);
        Check.due("the modes", () -> "" + cast.modeAt(2, 0, 0) + cast.modeAt(2, 8, 0) + cast.modeAt(2, 0, 8)
                + cast.modeAt(2, 8, 8), "4563");
        Check.sentence("Promise 24", "Returns a vector of the part in which a pixel is.");
        Check.sentence("Promise 24", "the column");
        Check.sentence("Promise 24", "the row");
        Check.sentence("Promise 24", "whether that for the second picture is meant");
        Check.sentence("Promise 24", "if the part uses no such vector");
        String none = "throws NoSuchElementException";
        String outside = "throws IndexOutOfBoundsException";
        Object[][] want = {{0, 0, 808, none}, {7, 7, 808, none}, {8, 0, none, 808}, {15, 7, none, 808}, {0, 8, 808, 808},
            {7, 15, 808, 808}, {8, 8, none, none}, {15, 15, none, none},
            {16, 0, outside, outside}, {8, 16, outside, outside}};
        for (Object[] w : want) {
            Check.due("first at " + w[0] + ", " + w[1], () -> cast.vectorAt(2, (int) w[0], (int) w[1], false), w[2]);
            Check.due("second at " + w[0] + ", " + w[1], () -> cast.vectorAt(2, (int) w[0], (int) w[1], true), w[3]);
        }
        Check.sentence("Exceptions", "If several conditions of a method apply, the exception that is listed "
                + "first is thrown.");
        Check.outside("no pixel, and no vector in 'i'", () -> cast.vectorAt(0, 16, 16, false));
        Check.outside("no picture, and no vector", () -> cast.vectorAt(3, 0, 0, true));
        Check.missing("no vector in 'i'", () -> cast.vectorAt(0, 15, 15, false));
        Check.missing("no second one in 'i'", () -> cast.vectorAt(0, 15, 15, true));
    }

    private static void levelAt() {
        BlockCast cast = Made.flat(128, 4, 0);
        cast.fill(8, 4, 4, 4, 131);
        cast.code('i', 0, 0);
        Check.sentence("Promise 25", "Returns the level at the place of a pixel.");
        Check.sentence("Promise 25", "Returns the level.");
        Check.sentence("Promise 25", "the column");
        Check.sentence("Promise 25", "the row");
        Check.due("8, 4", () -> cast.levelAt(0, 8, 4), 3);
        Check.due("4, 8", () -> cast.levelAt(0, 4, 8), 0);
        Check.due("9, 4", () -> cast.levelAt(0, 9, 4), 0);
        Check.due("12, 4", () -> cast.levelAt(0, 12, 4), 0);
        Check.due("8, 0", () -> cast.levelAt(0, 8, 0), 0);
        cast.fill(8, 4, 4, 4, 120);
        cast.code('i', 0, 0);
        Check.due("less than 0", () -> cast.levelAt(1, 8, 4), -8);
    }

    private static void built() {
        BlockCast cast = Made.flat(128, 8, 2);
        cast.fill(8, 0, 8, 16, 136);
        cast.code('i', 0, 0);
        Made.paint(cast, 0);
        Check.sentence("Promise 26", "Returns a pixel of a picture as the coder has built it, smoothed if so.");
        Check.sentence("Promise 26", "Returns the value.");
        Check.sentence("Promise 26", "the column");
        Check.sentence("Promise 26", "the row");
        Check.due("7, 3", () -> cast.built(0, 7, 3), 130);
        Check.due("8, 3", () -> cast.built(0, 8, 3), 134);
        Check.due("3, 8", () -> cast.built(0, 3, 8), 128);
        Check.due("15, 15", () -> cast.built(0, 15, 15), 136);
        cast.setTools(0);
        Made.quarters(cast, 128, 136, 128, 136);
        cast.code('i', 0, 0);
        Check.due("not smoothed", () -> cast.built(1, 7, 3), 128);
    }

    private static void errorOf() {
        Check.sentence("Promise 27", "Returns the sum of the squares of the differences between a picture as it "
                + "is built and the canvas as it was when the picture was coded.");
        Check.sentence("Promise 27", "Returns the sum.");
        BlockCast cast = Made.flat(128, 40, 0);
        cast.code('i', 0, 0);
        Check.due("none", () -> cast.errorOf(0), 0);
        cast.fill(0, 0, 1, 1, 247);
        cast.code('i', 0, 0);
        Check.due("119 is too little for a level", () -> cast.errorOf(1), 119 * 119);
        cast.fill(0, 0, 1, 1, 9);
        cast.code('i', 0, 0);
        Check.due("and so is -119", () -> cast.errorOf(2), 119 * 119);
        Made.paint(cast, 0);
        cast.move(3, 3);
        Check.due("the canvas as it was", () -> cast.errorOf(1), 119 * 119);
        BlockCast smoothed = Made.flat(128, 8, 2);
        smoothed.fill(8, 0, 8, 16, 136);
        smoothed.code('i', 0, 0);
        Check.due("as it is smoothed", () -> smoothed.errorOf(0), 16 * (4 + 4));
    }

    private static void heaviest() {
        BlockCast cast = Made.flat(128, 8, 0);
        Check.sentence("Promise 28", "if there are not so many pictures");
        for (int rank : new int[] {-1, 0, 1, LEAST, MOST}) {
            Check.outside(rank + " of none", () -> cast.heaviest(rank));
        }
        int[] grains = {0, 9, 0, 99, 9, 0};
        for (int grain : grains) {
            Made.paint(cast, 128);
            if (grain > 0) {
                cast.grain(4, grain);
            }
            cast.code('i', 0, 0);
        }
        Check.sentence("Promise 28", "Returns a picture by its bits, the one with the most first, of several the "
                + "lowest number.");
        Check.sentence("Promise 28", "the rank, from 0");
        Check.sentence("Promise 28", "Returns the number of the picture.");
        int[] want = {3, 1, 4, 0, 2, 5};
        for (int i = 0; i < want.length; i++) {
            int rank = i;
            Check.due("the rank " + rank, () -> cast.heaviest(rank), want[i]);
        }
        Check.sentence("Promise 28", "if there are not so many pictures");
        for (int rank : new int[] {-1, 6, 7, 12, LEAST, MOST}) {
            Check.outside(rank + " of 6", () -> cast.heaviest(rank));
        }
        BlockCast full = Made.flat(128, 8, 0);
        for (int i = 0; i < 12; i++) {
            full.code('i', 0, 0);
        }
        Check.due("the last one of 12", () -> full.heaviest(11), 11);
        Check.outside("12 of 12", () -> full.heaviest(12));
    }

    private static void commonest() {
        BlockCast cast = Made.flat(128, 8, 0);
        Check.sentence("Promise 29", "if there are no pictures");
        Check.missing("none", cast::commonest);
        cast.setBucket(1, 0);
        Check.told(() -> cast.code('i', 0, 0));
        Check.missing("one that was refused", cast::commonest);
        Check.sentence("Promise 29", "of several the lowest one");
        Check.sentence("Promise 29", "Returns the mode.");
        BlockCast tie = Made.flat(50, 1, 0);
        tie.setSlices(2);
        tie.code('i', 0, 0);
        Check.due("0 2 0 2", tie::commonest, 0);
        tie.code('p', 0, 0);
        Check.due("the modes", () -> modes(tie, 1), "4444");
        Check.due("and 4 of the mode 4", tie::commonest, 4);
        tie.code('i', 0, 0);
        Check.due("4 of each of 0, 2 and 4", tie::commonest, 0);
        tie.code('p', 0, 0);
        Check.due("and 4 of the mode 4 again", tie::commonest, 4);
    }

    private static String modes(BlockCast cast, int picture) {
        return "" + cast.modeAt(picture, 0, 0) + cast.modeAt(picture, 8, 0) + cast.modeAt(picture, 0, 8)
                + cast.modeAt(picture, 8, 8);
    }

    private static void commonestOfAll() {
        Check.sentence("Promise 29", "Returns the mode that the most parts of all pictures have");
        BlockCast cast = Made.flat(60, 4, 1);
        cast.fill(4, 4, 12, 4, 160);
        cast.code('i', 0, 0);
        // the parts of 4 have the modes 0 2 1 0 and 2 2 2 2, and those of 8 have 1 and 2
        Check.due("6 parts with the mode 2", cast::commonest, 2);
        cast.setTools(0);
        Made.paint(cast, 128);
        cast.code('i', 0, 0);
        Check.due("6 of each of 0 and 2", cast::commonest, 0);
        cast.setTools(1);
        Made.paint(cast, 60);
        cast.fill(4, 4, 12, 4, 160);
        cast.code('i', 0, 0);
        Check.due("12 of 2, 8 of 0", cast::commonest, 2);
        BlockCast leant = Made.flat(60, 4, 0);
        leant.code('i', 0, 0);
        for (int i = 1; i < 12; i++) {
            leant.code('p', 0, 0);
        }
        Check.due("of pictures that lean", leant::commonest, 4);
    }
}
