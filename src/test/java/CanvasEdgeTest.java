import java.math.BigInteger;

/** The sentences of the promises 1 to 11, the canvas and the settings, each with a test of its own. */
final class CanvasEdgeTest {
    private static final int LEAST = Made.LEAST;
    private static final int MOST = Made.MOST;

    private CanvasEdgeTest() {
    }

    public static void main(String[] args) {
        newObject();
        theCanvas();
        fillTakes();
        fillRefuses();
        slopeTakes();
        slopeRefuses();
        grainTakes();
        grainRefuses();
        moveTakes();
        moveRefuses();
        pixel();
        setCoarseness();
        setTools();
        setSlices();
        setKept();
        setBucketTakes();
        setBucketRefuses();
        Check.end("CanvasEdgeTest");
    }

    // ---- promise 1

    private static void newObject() {
        BlockCast cast = new BlockCast();
        Check.sentence("Promise 1", "Creates a coder without pictures");
        Check.due("pictures", cast::pictures, 0);
        Check.due("kept", cast::kept, 0);
        Check.outside("keptAt", () -> cast.keptAt(0));
        Check.outside("kindOf", () -> cast.kindOf(0));
        Check.outside("errorOf", () -> cast.errorOf(0));
        Check.outside("heaviest", () -> cast.heaviest(0));
        Check.missing("commonest", cast::commonest);
        Check.due("meanBits", cast::meanBits, "throws ArithmeticException");
        Check.outside("none to lean on", () -> cast.code('p', 0, 0));
        Check.sentence("Promise 1", "a decoder that waits for the picture 0");
        Check.missing("send", () -> cast.send(0));
        Check.missing("shown", cast::shown);
        Check.missing("shownAt", () -> cast.shownAt(0, 0));
        Check.missing("isClean", cast::isClean);
        Check.missing("drift", cast::drift);
        Check.due("cleanShare", cast::cleanShare, "throws ArithmeticException");
        cast.code('i', 0, 0);
        cast.code('i', 0, 0);
        Check.due("sent", () -> cast.send(0), 'c');
        Check.due("shown", cast::shown, 0);
        Check.sentence("The bucket", "There is none at first.");
        Check.missing("bucket", () -> new BlockCast().bucket());
        Check.due("setBucket", () -> new BlockCast().setBucket(5, 0), -1);
        Check.sentence("Settings", "The coarseness is from 1 to 40, 8 at first.");
        Check.due("coarseness", () -> new BlockCast().coarseness(), 8);
        Check.due("setCoarseness", () -> new BlockCast().setCoarseness(3), 8);
    }

    // ---- promises 2 to 6: the canvas

    private static void theCanvas() {
        BlockCast cast = new BlockCast();
        Check.sentence("Canvas", "the canvas has 0 everywhere at first");
        Check.due("all pixels", () -> Made.canvas(cast), "0 ".repeat(256));
        Check.sentence("Canvas", "Pictures and the canvas have 16 times 16 pixels, x to the right and y down, "
                + "from 0 to 15 each, with values from 0 to 255");
        cast.fill(3, 5, 1, 1, 9);
        cast.fill(15, 0, 1, 1, 255);
        cast.fill(0, 15, 1, 1, 0);
        Check.due("x is to the right", () -> cast.pixel(3, 5), 9);
        Check.due("y is down", () -> cast.pixel(5, 3), 0);
        Check.due("the right upper corner", () -> cast.pixel(15, 0), 255);
        Check.due("the left lower corner", () -> cast.pixel(0, 15), 0);
    }

    private static void fillTakes() {
        Check.sentence("Promise 2", "Fills a rectangle of the canvas.");
        BlockCast cast = new BlockCast();
        Check.due("a rectangle", () -> cast.fill(2, 3, 4, 5, 200), 20);
        StringBuilder want = new StringBuilder();
        for (int place = 0; place < 256; place++) {
            boolean isIn = place % 16 >= 2 && place % 16 < 6 && place / 16 >= 3 && place / 16 < 8;
            want.append(isIn ? "200 " : "0 ");
        }
        Check.due("just its pixels", () -> Made.canvas(cast), want);
        Check.sentence("Promise 2", "Returns the number of pixels that change.");
        Check.due("the same again", () -> cast.fill(2, 3, 4, 5, 200), 0);
        Check.due("a part of it is there", () -> cast.fill(0, 0, 4, 4, 200), 14);
        Check.due("the others", () -> cast.fill(0, 0, 16, 16, 0), 34);
        Check.due("all of them", () -> cast.fill(0, 0, 16, 16, 1), 256);
        Check.sentence("Promise 2", "its left column");
        Check.due("0", () -> cast.fill(0, 4, 1, 1, 2), 1);
        Check.due("15", () -> cast.fill(15, 4, 1, 1, 2), 1);
        Check.sentence("Promise 2", "its upper row");
        Check.due("0", () -> cast.fill(4, 0, 1, 1, 2), 1);
        Check.due("15", () -> cast.fill(4, 15, 1, 1, 2), 1);
        Check.sentence("Promise 2", "its width, 1 or more");
        Check.due("1", () -> cast.fill(7, 7, 1, 2, 3), 2);
        Check.due("16", () -> cast.fill(0, 9, 16, 1, 3), 16);
        Check.due("up to the right side", () -> cast.fill(9, 11, 7, 1, 3), 7);
        Check.sentence("Promise 2", "its height, 1 or more");
        Check.due("1", () -> cast.fill(7, 13, 2, 1, 3), 2);
        Check.due("16", () -> cast.fill(1, 0, 1, 16, 4), 16);
        Check.due("down to the lower side", () -> cast.fill(2, 10, 1, 6, 4), 6);
        Check.sentence("Promise 2", "the value");
        Check.due("0", () -> cast.fill(5, 5, 1, 1, 0), 1);
        Check.due("255", () -> cast.fill(5, 5, 1, 1, 255), 1);
        Check.due("is there", () -> cast.pixel(5, 5), 255);
    }

    private static void refuseFills(String words, int[][] wrong) {
        Check.sentence("Promise 2", words);
        BlockCast cast = new BlockCast();
        cast.slope(1, 3, 5);
        String before = Made.canvas(cast);
        for (int[] w : wrong) {
            Check.illegal("fill(" + w[0] + ", " + w[1] + ", " + w[2] + ", " + w[3] + ", " + w[4] + ")",
                    () -> cast.fill(w[0], w[1], w[2], w[3], w[4]));
        }
        Check.due("the canvas after refused ones", () -> Made.canvas(cast), before);
    }

    private static void fillRefuses() {
        refuseFills("its left column", new int[][] {{-1, 0, 1, 1, 9}, {-1, 0, 2, 1, 9}, {16, 0, 1, 1, 9},
            {LEAST, 0, 1, 1, 9}, {MOST, 0, 1, 1, 9}, {LEAST, 0, MOST, 1, 9}});
        refuseFills("its upper row", new int[][] {{0, -1, 1, 1, 9}, {0, -1, 1, 2, 9}, {0, 16, 1, 1, 9},
            {0, LEAST, 1, 1, 9}, {0, MOST, 1, 1, 9}, {0, LEAST, 1, MOST, 9}});
        refuseFills("its width, 1 or more", new int[][] {{0, 0, 0, 1, 9}, {3, 3, -1, 1, 9}, {0, 0, 17, 1, 9},
            {1, 0, 16, 1, 9}, {15, 0, 2, 1, 9}, {1, 0, MOST, 1, 9}, {15, 0, LEAST, 1, 9}, {16, 0, 0, 1, 9}});
        refuseFills("its height, 1 or more", new int[][] {{0, 0, 1, 0, 9}, {3, 3, 1, -1, 9}, {0, 0, 1, 17, 9},
            {0, 1, 1, 16, 9}, {0, 15, 1, 2, 9}, {0, 1, 1, MOST, 9}, {0, 15, 1, LEAST, 9}, {0, 16, 1, 0, 9}});
        refuseFills("the value", new int[][] {{0, 0, 16, 16, -1}, {0, 0, 16, 16, 256}, {0, 0, 1, 1, LEAST},
            {0, 0, 1, 1, MOST}});
        refuseFills("if the rectangle is not within the canvas, or the value is out of range",
                new int[][] {{-1, 0, 1, 1, 256}, {MOST, MOST, MOST, MOST, MOST}, {LEAST, LEAST, LEAST, LEAST, LEAST}});
    }

    private static String sloped(int first, int stepX, int stepY) {
        StringBuilder text = new StringBuilder();
        for (int place = 0; place < 256; place++) {
            text.append(Math.floorMod(first + place % 16 * stepX + place / 16 * stepY, 256)).append(' ');
        }
        return text.toString();
    }

    private static void slopeTakes() {
        Check.sentence("Promise 3", "Paints all of the canvas with a slope: the pixel x, y gets the first value "
                + "plus x times the one step plus y times the other one, modulo 256, from 0 on.");
        int[][] slopes = {{10, 3, 7}, {0, 0, 0}, {255, 99, 99}, {0, -99, -99}, {255, -99, 99}, {0, 99, -99}, {1, -1, 0}};
        for (int[] s : slopes) {
            BlockCast cast = new BlockCast();
            cast.slope(s[0], s[1], s[2]);
            Check.due("all pixels", () -> Made.canvas(cast), sloped(s[0], s[1], s[2]));
        }
        BlockCast cast = new BlockCast();
        cast.slope(255, 1, 0);
        Check.due("256 is 0", () -> cast.pixel(1, 0), 0);
        cast.slope(0, -1, 0);
        Check.due("-1 is 255", () -> cast.pixel(1, 0), 255);
        cast.slope(0, 0, -64);
        Check.due("-256 is 0", () -> cast.pixel(0, 4), 0);
        cast.slope(0, 0, -99);
        Check.due("-1485 is 51", () -> cast.pixel(0, 15), 51);
        Check.sentence("Promise 3", "Returns the value of the pixel 15, 15.");
        Check.due("0 - 15 - 15", () -> cast.slope(0, -1, -1), 226);
        Check.due("255 + 1485 + 1485", () -> cast.slope(255, 99, 99), 153);
        Check.sentence("Promise 3", "the first value");
        Check.due("0", () -> cast.slope(0, 0, 0), 0);
        Check.due("255", () -> cast.slope(255, 0, 0), 255);
        Check.sentence("Promise 3", "the step for x");
        Check.due("99", () -> cast.slope(0, 99, 0), 1485 - 5 * 256);
        Check.due("-99", () -> cast.slope(0, -99, 0), 51);
        Check.sentence("Promise 3", "the step for y");
        Check.due("99", () -> cast.slope(0, 0, 99), 1485 - 5 * 256);
        Check.due("-99", () -> cast.slope(0, 0, -99), 51);
    }

    private static void slopeRefuses() {
        BlockCast cast = new BlockCast();
        cast.slope(1, 3, 5);
        for (int wrong : new int[] {-1, 256, LEAST, MOST}) {
            Check.sentence("Promise 3", "the first value");
            Check.illegal("" + wrong, () -> cast.slope(wrong, 0, 0));
        }
        for (int wrong : new int[] {-100, 100, LEAST, MOST}) {
            Check.sentence("Promise 3", "the step for x");
            Check.illegal("" + wrong, () -> cast.slope(9, wrong, 0));
            Check.sentence("Promise 3", "the step for y");
            Check.illegal("" + wrong, () -> cast.slope(9, 0, wrong));
        }
        Check.sentence("Promise 3", "if the first value is out of range, or a step is not from -99 to 99");
        Check.illegal("all of them", () -> cast.slope(256, 100, -100));
        Check.due("the canvas after refused ones", () -> Made.canvas(cast), sloped(1, 3, 5));
    }

    /** The number behind so many pixels, not step by step, but from the sum of a geometric row. */
    private static int behind(int seed, int pixels) {
        BigInteger a = BigInteger.valueOf(1103515245);
        BigInteger power = a.pow(pixels);
        BigInteger sum = power.subtract(BigInteger.ONE).divide(a.subtract(BigInteger.ONE));
        return power.multiply(BigInteger.valueOf(seed)).add(sum.multiply(BigInteger.valueOf(12345))).intValue();
    }

    private static String grained(int value, int seed, int size) {
        StringBuilder text = new StringBuilder();
        for (int place = 0; place < 256; place++) {
            long upper = (behind(seed, place + 1) & 0xffffffffL) / 65536;
            long grained = value + upper % (2L * size + 1) - size;
            text.append(grained < 0 ? 0 : grained > 255 ? 255 : grained).append(' ');
        }
        return text.toString();
    }

    private static void grainTakes() {
        Check.sentence("Promise 4", "Lays grain on the canvas: for each pixel, by rows, a number, the seed at "
                + "first, becomes 1103515245 times itself plus 12345, as ints go round; its upper 16 bits, as a "
                + "number from 0 on, modulo 2 times the size plus 1, less the size, are added to the pixel, held "
                + "within 0 and 255.");
        int[][] grains = {{128, 0, 1}, {128, 1, 99}, {128, -1, 50}, {128, LEAST, 7}, {128, MOST, 8}, {0, 3, 99},
            {255, 4, 99}, {0, 5, 1}, {255, 6, 1}};
        for (int[] g : grains) {
            BlockCast cast = Made.flat(g[0], 8, 7);
            cast.grain(g[1], g[2]);
            Check.due("all pixels", () -> Made.canvas(cast), grained(g[0], g[1], g[2]));
        }
        // behind LEAST it is LEAST plus 12345: the upper bits are 32768, which is 2 modulo 3
        BlockCast cast = Made.flat(100, 8, 7);
        cast.grain(LEAST, 1);
        Check.due("upper bits from 0 on", () -> cast.pixel(0, 0), 101);
        // behind MOST it is LEAST less 1103515245 plus 12345, or 1043980748: the upper bits are 15929
        Made.paint(cast, 100);
        cast.grain(MOST, 1);
        Check.due("as ints go round", () -> cast.pixel(0, 0), 101);
        Made.paint(cast, 255);
        cast.grain(MOST, 1);
        Check.due("held at 255", () -> cast.pixel(0, 0), 255);
        Made.paint(cast, 0);
        cast.grain(0, 1);
        Check.due("held at 0", () -> cast.pixel(0, 0), 0);
        Check.sentence("Promise 4", "the seed");
        Check.sentence("Promise 4", "Returns the number behind the last pixel.");
        for (int seed : new int[] {0, 1, -1, 7, 12345, LEAST, MOST}) {
            Check.due("seed " + seed, () -> cast.grain(seed, 9), behind(seed, 256));
        }
        Check.sentence("Promise 4", "the size, 1 to 99");
        Check.due("1", () -> cast.grain(7, 1), 1405923079);
        Check.due("99", () -> cast.grain(7, 99), 1405923079);
    }

    private static void grainRefuses() {
        BlockCast cast = new BlockCast();
        cast.slope(1, 3, 5);
        Check.sentence("Promise 4", "if the size is out of range");
        for (int wrong : new int[] {0, 100, -1, LEAST, MOST}) {
            Check.illegal("" + wrong, () -> cast.grain(5, wrong));
        }
        Check.due("the canvas after refused ones", () -> Made.canvas(cast), sloped(1, 3, 5));
    }

    private static void moveTakes() {
        Check.sentence("Promise 5", "Moves the canvas, what goes out at one side coming in at the other one.");
        int[] steps = {-15, -8, -1, 0, 1, 7, 15};
        for (int right : steps) {
            for (int down : steps) {
                BlockCast cast = new BlockCast();
                cast.slope(0, 1, 16);
                cast.move(right, down);
                StringBuilder want = new StringBuilder();
                for (int place = 0; place < 256; place++) {
                    int from = Math.floorMod(place % 16 - right, 16) + 16 * Math.floorMod(place / 16 - down, 16);
                    want.append(from).append(' ');
                }
                Check.due("by " + right + " and " + down, () -> Made.canvas(cast), want);
            }
        }
        BlockCast cast = new BlockCast();
        cast.slope(0, 1, 16);
        Check.sentence("Promise 5", "Returns the value of the pixel 0, 0 then.");
        Check.due("by 0", () -> cast.move(0, 0), 0);
        Check.sentence("Promise 5", "by how many pixels to the right");
        Check.due("15", () -> cast.move(15, 0), 1);
        Check.due("-15", () -> cast.move(-15, 0), 0);
        Check.sentence("Promise 5", "by how many pixels down");
        Check.due("15", () -> cast.move(0, 15), 16);
        Check.due("-15", () -> cast.move(0, -15), 0);
    }

    private static void moveRefuses() {
        BlockCast cast = new BlockCast();
        cast.slope(1, 3, 5);
        Check.sentence("Promise 5", "if a number is not from -15 to 15");
        for (int wrong : new int[] {-16, 16, -17, 32, LEAST, MOST}) {
            Check.illegal("to the right by " + wrong, () -> cast.move(wrong, 1));
            Check.illegal("down by " + wrong, () -> cast.move(1, wrong));
        }
        Check.due("the canvas after refused ones", () -> Made.canvas(cast), sloped(1, 3, 5));
    }

    private static void pixel() {
        BlockCast cast = new BlockCast();
        cast.slope(0, 1, 16);
        Check.sentence("Promise 6", "Returns a pixel of the canvas.");
        Check.sentence("Promise 6", "Returns the value.");
        Check.due("0, 0", () -> cast.pixel(0, 0), 0);
        Check.due("15, 15", () -> cast.pixel(15, 15), 255);
        Check.sentence("Promise 6", "the column");
        Check.due("15, 0", () -> cast.pixel(15, 0), 15);
        Check.sentence("Promise 6", "the row");
        Check.due("0, 15", () -> cast.pixel(0, 15), 240);
        Check.sentence("Promise 6", "if there is no such pixel");
        for (int[] w : Made.wrongPixels()) {
            Check.outside(w[0] + ", " + w[1], () -> cast.pixel(w[0], w[1]));
        }
        Check.due("the canvas after refused ones", () -> Made.canvas(cast), sloped(0, 1, 16));
    }

    // ---- promises 7 to 11: the settings

    private static void setCoarseness() {
        BlockCast cast = new BlockCast();
        Check.sentence("Promise 7", "Sets the coarseness.");
        cast.setCoarseness(17);
        Check.due("the next picture will have it", cast::coarseness, 17);
        cast.code('i', 0, 0);
        Check.due("the picture has it", () -> cast.coarsenessOf(0), 17);
        Check.sentence("Promise 7", "the coarseness, 1 to 40");
        Check.due("1", () -> cast.setCoarseness(1), 17);
        Check.due("40", () -> cast.setCoarseness(40), 1);
        Check.sentence("Promise 7", "if it is out of range");
        for (int wrong : new int[] {0, 41, -1, LEAST, MOST}) {
            Check.illegal("" + wrong, () -> cast.setCoarseness(wrong));
            Check.due("coarseness after " + wrong, cast::coarseness, 40);
        }
        Check.sentence("Promise 7", "Returns the one before.");
        Check.due("after refused ones", () -> cast.setCoarseness(39), 40);
        BlockCast steered = Made.flat(128, 8, 0);
        steered.setBucket(48, 0);
        steered.code('i', 0, 0);
        Check.due("the one that the bucket made", () -> steered.setCoarseness(8), 9);
    }

    private static void setTools() {
        Check.sentence("Promise 8", "Sets the tools.");
        Check.sentence("Settings", "The tools are the sum of 1 if blocks may be split, 2 if edges are smoothed, "
                + "and 4 if vectors may be odd; 7 at first.");
        Check.due("at first", () -> new BlockCast().setTools(0), 7);
        for (int tools = 0; tools <= 7; tools++) {
            int split = (tools & 1) != 0 ? 4 : 8;
            int smoothed = (tools & 2) != 0 ? 130 : 128;
            int vector = (tools & 4) != 0 ? 908 : 808;
            BlockCast cast = Made.flat(100, 8, tools);
            cast.fill(3, 3, 1, 1, 200);
            cast.code('i', 0, 0);
            Check.due("splitting with " + tools, () -> cast.partAt(0, 0, 0), split);
            Made.quarters(cast, 128, 136, 128, 136);
            cast.code('i', 0, 0);
            Check.due("smoothing with " + tools, () -> cast.built(1, 7, 0), smoothed);
            cast.setCoarseness(1);
            cast.slope(0, 2, 0);
            cast.code('i', 0, 0);
            cast.slope(1, 2, 0);
            cast.code('p', 0, 0);
            Check.due("odd vectors with " + tools, () -> cast.vectorAt(3, 0, 0, false), vector);
        }
        BlockCast cast = new BlockCast();
        Check.sentence("Promise 8", "the tools, 0 to 7");
        Check.due("0", () -> cast.setTools(0), 7);
        Check.due("7", () -> cast.setTools(7), 0);
        Check.due("5", () -> cast.setTools(5), 7);
        Check.sentence("Promise 8", "if they are out of range");
        for (int wrong : new int[] {8, -1, 15, LEAST, MOST}) {
            Check.illegal("" + wrong, () -> cast.setTools(wrong));
        }
        Check.sentence("Promise 8", "Returns the tools before.");
        Check.due("after refused ones", () -> cast.setTools(5), 5);
    }

    private static void setSlices() {
        BlockCast cast = Made.flat(128, 8, 0);
        Check.sentence("Promise 9", "Sets the number of slices.");
        Check.sentence("Settings", "A picture has one slice with all rows, as at first, or two with 8 rows each, "
                + "the upper one being 0.");
        cast.code('i', 0, 0);
        Check.due("all rows are in one", () -> cast.bytes(0, 0), 6);
        Check.outside("there is one", () -> cast.bytes(0, 1));
        cast.setSlices(2);
        cast.fill(0, 8, 16, 8, 0);
        cast.code('i', 0, 0);
        Check.due("the upper one is 0", () -> cast.bytes(1, 0) < cast.bytes(1, 1), true);
        cast.fill(0, 7, 16, 1, 0);
        cast.fill(0, 8, 16, 8, 128);
        cast.code('i', 0, 0);
        Check.due("the row 7 is in it", () -> cast.bytes(2, 0) > cast.bytes(2, 1), true);
        Check.sentence("Promise 9", "1 or 2");
        Check.due("1", () -> cast.setSlices(1), 2);
        Check.due("2", () -> cast.setSlices(2), 1);
        Check.sentence("Promise 9", "if it is out of range");
        for (int wrong : new int[] {0, 3, -1, LEAST, MOST}) {
            Check.illegal("" + wrong, () -> cast.setSlices(wrong));
        }
        Check.sentence("Promise 9", "Returns the number before.");
        Check.due("after refused ones", () -> cast.setSlices(1), 2);
        Check.due("at first", () -> new BlockCast().setSlices(2), 1);
    }

    private static void setKept() {
        BlockCast cast = Made.flat(128, 8, 0);
        Check.sentence("Promise 10", "Returns whether they were.");
        Check.sentence("Settings", "Coded pictures are kept, as at first, or not.");
        Check.due("at first", () -> cast.setKept(true), true);
        Check.due("still", () -> cast.setKept(false), true);
        Check.due("not any more", () -> cast.setKept(false), false);
        Check.sentence("Promise 10", "Sets whether coded pictures are kept.");
        Check.sentence("Promise 10", "whether they are");
        cast.code('i', 0, 0);
        Check.due("not kept", cast::kept, 0);
        cast.setKept(true);
        Check.due("what is coded stays so", cast::kept, 0);
        cast.code('i', 0, 0);
        Check.due("kept", cast::kept, 1);
        cast.setKept(false);
        Check.due("what is kept stays so", cast::kept, 1);
    }

    private static void setBucketTakes() {
        BlockCast cast = Made.flat(128, 8, 0);
        Check.sentence("Promise 11", "Returns the bits that the bucket before had, -1 if there was none.");
        Check.due("none", () -> cast.setBucket(1000, 0), -1);
        Check.due("an empty one", () -> cast.setBucket(1000, 0), 0);
        cast.code('i', 0, 0);
        Check.due("one with bits", () -> cast.setBucket(1000, 10), Made.GREY_BITS);
        Check.sentence("Promise 11", "Sets a bucket, which is empty then, or takes it away.");
        Check.due("empty", cast::bucket, 0);
        cast.code('i', 0, 0);
        Check.due("taken away", () -> cast.setBucket(0, 10), Made.GREY_BITS);
        Check.missing("there is none", cast::bucket);
        Check.due("taken away again", () -> cast.setBucket(0, 0), -1);
        cast.code('i', 0, 0);
        Check.missing("there is still none", cast::bucket);
        Check.sentence("Promise 11", "the room in bits, 1 to 99999, or 0 for none");
        Check.due("1", () -> cast.setBucket(1, 0), -1);
        Check.due("room for 1", () -> cast.code('i', 0, 0), "throws UnsupportedOperationException");
        Check.due("99999", () -> cast.setBucket(99999, 0), 0);
        Check.due("0", () -> cast.setBucket(0, 0), 0);
        Check.due("no room and a leak", () -> cast.setBucket(0, 99999), -1);
        Check.sentence("Promise 11", "the leak in bits, 0 to 99999");
        Check.due("0", () -> cast.setBucket(100, 0), -1);
        cast.code('i', 0, 0);
        cast.code('i', 0, 0);
        Check.due("nothing leaks", cast::bucket, 96);
        Check.due("99999", () -> cast.setBucket(100, 99999), 96);
        cast.code('i', 0, 0);
        cast.code('i', 0, 0);
        Check.due("all leaks", cast::bucket, 48);
    }

    private static void setBucketRefuses() {
        int[][] wrong = {{-1, 0}, {100000, 0}, {LEAST, 0}, {MOST, 0}, {5, -1}, {5, 100000}, {5, LEAST}, {5, MOST},
            {0, -1}, {0, 100000}, {0, LEAST}, {0, MOST}, {-1, -1}, {100000, 100000}};
        Check.sentence("Promise 11", "if a number is out of range");
        BlockCast none = Made.flat(128, 8, 0);
        BlockCast there = Made.flat(128, 8, 0);
        there.setBucket(120, 30);
        there.code('i', 0, 0);
        for (int[] w : wrong) {
            String call = "setBucket(" + w[0] + ", " + w[1] + ")";
            Check.illegal(call + " without a bucket", () -> none.setBucket(w[0], w[1]));
            Check.illegal(call + " with one", () -> there.setBucket(w[0], w[1]));
        }
        Check.missing("there is still none", none::bucket);
        Check.due("which setBucket tells", () -> none.setBucket(7, 7), -1);
        Check.due("it has its bits", there::bucket, 48);
        there.code('i', 0, 0);
        there.code('i', 0, 0);
        there.code('i', 0, 0);
        Check.due("and its leak", there::bucket, 48 + 3 * 18);
        there.setTools(1);
        Check.due("and its room", () -> there.code('i', 0, 0), Made.GREY_BITS);
        Check.due("which is full", there::bucket, 120);
        there.setTools(0);
        Check.due("too full", () -> there.code('i', 0, 0), "throws UnsupportedOperationException");
    }
}
