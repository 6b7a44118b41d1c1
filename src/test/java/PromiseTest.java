/** Each promise by itself, with answers that are worked out by hand from the document. */
final class PromiseTest {
    private static final int LEAST = Made.LEAST;
    private static final int MOST = Made.MOST;
    private static final int GREY_BITS = Made.GREY_BITS;

    private PromiseTest() {
    }

    public static void main(String[] args) {
        newObject();
        fill();
        slope();
        grain();
        move();
        pixel();
        settings();
        setBucket();
        codeRefuses();
        codeAnswers();
        bucketSteers();
        bucketLeaks();
        keptPictures();
        settingsOfPictures();
        bytesOfSlices();
        parts();
        borderModes();
        leaningModes();
        vectors();
        vectorEdges();
        levels();
        smoothing();
        slicesAreApart();
        noSuchPictureOrPixel();
        heaviest();
        commonest();
        sendRefuses();
        concealing();
        leaningOnBroken();
        unkeptPictures();
        joining();
        shown();
        totals();
        Check.end("PromiseTest");
    }

    // ---- promise 1

    private static void newObject() {
        BlockCast cast = new BlockCast();
        Check.due("pictures at first", cast::pictures, 0);
        Check.due("kept at first", cast::kept, 0);
        Check.due("coarseness at first", cast::coarseness, 8);
        Check.due("pixel at first", () -> cast.pixel(7, 9), 0);
        Check.missing("bucket at first", cast::bucket);
        Check.missing("shown at first", cast::shown);
        Check.missing("send at first", () -> cast.send(0));
        Check.due("tools at first", () -> cast.setTools(7), 7);
        Check.due("slices at first", () -> cast.setSlices(1), 1);
        Check.due("kept setting at first", () -> cast.setKept(true), true);
        cast.code('i', 0, 0);
        cast.code('i', 0, 0);
        cast.send(0);
        Check.due("the decoder waits for the picture 0", cast::shown, 0);
    }

    // ---- promises 2 to 6: the canvas

    private static void fill() {
        BlockCast cast = new BlockCast();
        Check.due("fill of nothing new", () -> cast.fill(0, 0, 16, 16, 0), 0);
        Check.due("fill of a rectangle", () -> cast.fill(2, 3, 4, 5, 200), 20);
        Check.due("fill over a part of it", () -> cast.fill(5, 7, 2, 2, 200), 3);
        Check.due("inside", () -> cast.pixel(5, 7), 200);
        Check.due("left of it", () -> cast.pixel(1, 3), 0);
        Check.due("above it", () -> cast.pixel(2, 2), 0);
        Check.due("right of it", () -> cast.pixel(6, 3), 0);
        Check.due("below it", () -> cast.pixel(2, 8), 0);
        Check.due("fill of the last pixel", () -> cast.fill(15, 15, 1, 1, 255), 1);
        Check.due("fill of the last row", () -> cast.fill(0, 15, 16, 1, 255), 15);
        int[][] wrong = {{0, 0, 17, 1, 9}, {0, 0, 1, 17, 9}, {1, 0, 16, 1, 9}, {0, 1, 1, 16, 9}, {16, 0, 1, 1, 9},
            {0, 16, 1, 1, 9}, {-1, 0, 1, 1, 9}, {0, -1, 1, 1, 9}, {0, 0, 0, 1, 9}, {0, 0, 1, 0, 9}, {3, 3, -1, 1, 9},
            {3, 3, 1, -1, 9}, {0, 0, 1, 1, -1}, {0, 0, 1, 1, 256}, {0, 0, MOST, 1, 9}, {1, 1, 1, MOST, 9},
            {LEAST, 0, 1, 1, 9}, {MOST, MOST, MOST, MOST, 9}, {1, 0, LEAST, 1, 9}, {0, 0, 1, 1, MOST}};
        for (int[] w : wrong) {
            Check.illegal("fill out of range", () -> cast.fill(w[0], w[1], w[2], w[3], w[4]));
        }
        Check.due("a refused fill changes nothing", () -> cast.pixel(0, 0), 0);
    }

    private static void slope() {
        BlockCast cast = new BlockCast();
        Check.due("slope", () -> cast.slope(10, 3, 7), 160);
        Check.due("slope at 0, 0", () -> cast.pixel(0, 0), 10);
        Check.due("slope at 2, 1", () -> cast.pixel(2, 1), 23);
        Check.due("slope down through 0", () -> cast.slope(1, -1, -1), 227);
        Check.due("modulo 256, from 0 on", () -> cast.pixel(2, 0), 255);
        Check.due("greatest steps", () -> cast.slope(255, 99, 99), (255 + 15 * 198) % 256);
        Check.due("least steps", () -> cast.slope(0, -99, -99), 256 * 12 - 15 * 198);
        int[][] wrong = {{-1, 0, 0}, {256, 0, 0}, {0, 100, 0}, {0, -100, 0}, {0, 0, 100}, {0, 0, -100},
            {LEAST, 0, 0}, {0, LEAST, 0}, {0, 0, MOST}};
        int before = cast.pixel(3, 3);
        for (int[] w : wrong) {
            Check.illegal("slope out of range", () -> cast.slope(w[0], w[1], w[2]));
        }
        Check.due("a refused slope changes nothing", () -> cast.pixel(3, 3), before);
    }

    private static void grain() {
        // the numbers behind the seed 0 are 12345, 3554416254, 2802067423; their upper halves 0, 54236, 42756
        BlockCast cast = new BlockCast();
        Made.paint(cast, 100);
        cast.grain(0, 1);
        Check.due("grain at 0, 0", () -> cast.pixel(0, 0), 99);
        Check.due("grain at 1, 0", () -> cast.pixel(1, 0), 101);
        Check.due("grain at 2, 0", () -> cast.pixel(2, 0), 99);
        Made.paint(cast, 255);
        cast.grain(0, 1);
        Check.due("held at 255", () -> cast.pixel(1, 0), 255);
        Made.paint(cast, 0);
        cast.grain(0, 99);
        Check.due("held at 0", () -> cast.pixel(0, 0), 0);
        Check.due("size 99 at 1, 0", () -> cast.pixel(1, 0), 54236 % 199 - 99);
        Check.due("the number behind the last pixel", () -> cast.grain(7, 9), 1405923079);
        for (int size : new int[] {0, 100, -1, LEAST, MOST}) {
            Check.illegal("grain out of range", () -> cast.grain(1, size));
        }
        // an odd number times LEAST is LEAST, so that behind 256 pixels, too, it is LEAST more than from the seed 0
        int ofNone = cast.grain(0, 1);
        Check.due("any seed", () -> cast.grain(LEAST, 1), ofNone + LEAST);
    }

    private static void move() {
        BlockCast cast = new BlockCast();
        cast.fill(0, 0, 1, 1, 9);
        Check.due("move out", () -> cast.move(-1, -2), 0);
        Check.due("comes in at the other side", () -> cast.pixel(15, 14), 9);
        Check.due("move back in", () -> cast.move(-15, 2), 9);
        Check.due("gone from there", () -> cast.pixel(15, 14), 0);
        cast.move(3, 0);
        Check.due("to the right", () -> cast.pixel(3, 0), 9);
        cast.move(0, 4);
        Check.due("down", () -> cast.pixel(3, 4), 9);
        Check.due("by 0", () -> cast.move(0, 0), 0);
        cast.move(15, 15);
        Check.due("by 15", () -> cast.pixel(2, 3), 9);
        int[][] wrong = {{16, 0}, {-16, 0}, {0, 16}, {0, -16}, {LEAST, 0}, {0, MOST}};
        for (int[] w : wrong) {
            Check.illegal("move out of range", () -> cast.move(w[0], w[1]));
        }
        Check.due("a refused move changes nothing", () -> cast.pixel(2, 3), 9);
    }

    private static void pixel() {
        BlockCast cast = new BlockCast();
        cast.slope(0, 1, 16);
        Check.due("pixel 15, 0", () -> cast.pixel(15, 0), 15);
        Check.due("pixel 0, 15", () -> cast.pixel(0, 15), 240);
        for (int[] w : Made.wrongPixels()) {
            Check.outside("no such pixel", () -> cast.pixel(w[0], w[1]));
        }
    }

    // ---- promises 7 to 11: the settings

    private static void settings() {
        BlockCast cast = new BlockCast();
        Check.due("setCoarseness", () -> cast.setCoarseness(40), 8);
        Check.due("setCoarseness again", () -> cast.setCoarseness(1), 40);
        for (int wrong : new int[] {0, 41, -1, LEAST, MOST}) {
            Check.illegal("setCoarseness out of range", () -> cast.setCoarseness(wrong));
        }
        Check.due("coarseness", cast::coarseness, 1);
        Check.due("setTools", () -> cast.setTools(0), 7);
        for (int wrong : new int[] {8, -1, LEAST, MOST}) {
            Check.illegal("setTools out of range", () -> cast.setTools(wrong));
        }
        Check.due("setTools again", () -> cast.setTools(7), 0);
        Check.due("setSlices", () -> cast.setSlices(2), 1);
        for (int wrong : new int[] {0, 3, -1, LEAST, MOST}) {
            Check.illegal("setSlices out of range", () -> cast.setSlices(wrong));
        }
        Check.due("setSlices again", () -> cast.setSlices(1), 2);
        Check.due("setKept", () -> cast.setKept(false), true);
        Check.due("setKept again", () -> cast.setKept(false), false);
        Check.due("setKept back", () -> cast.setKept(true), false);
    }

    private static void setBucket() {
        BlockCast cast = Made.flat(128, 8, 0);
        int[][] wrong = {{-1, 0}, {100000, 0}, {0, -1}, {0, 100000}, {1, 100000}, {LEAST, 0}, {1, MOST}};
        for (int[] w : wrong) {
            Check.illegal("setBucket out of range", () -> cast.setBucket(w[0], w[1]));
        }
        Check.missing("there is none yet", cast::bucket);
        Check.due("setBucket", () -> cast.setBucket(99999, 99999), -1);
        Check.due("empty at first", cast::bucket, 0);
        cast.code('i', 0, 0);
        Check.due("has the bits of the picture", cast::bucket, GREY_BITS);
        Check.illegal("setBucket out of range", () -> cast.setBucket(5, -1));
        Check.due("a refused setBucket changes nothing", cast::bucket, GREY_BITS);
        Check.due("another bucket", () -> cast.setBucket(1, 0), GREY_BITS);
        Check.due("which is empty", cast::bucket, 0);
        Check.due("no bucket", () -> cast.setBucket(0, 7), 0);
        Check.missing("there is none any more", cast::bucket);
        Check.due("still none", () -> cast.setBucket(0, 0), -1);
    }

    // ---- promises 12 to 17: coding

    private static void codeRefuses() {
        BlockCast cast = Made.flat(128, 8, 0);
        for (char kind : new char[] {'I', 'x', 0, 'P', 'B', 'a', 65535}) {
            Check.illegal("code of no kind", () -> cast.code(kind, 0, 0));
        }
        Check.outside("'p' without kept pictures", () -> cast.code('p', 0, 0));
        Check.outside("'b' without kept pictures", () -> cast.code('b', 0, 0));
        Check.due("'i' leans on none", () -> cast.code('i', LEAST, MOST), GREY_BITS);
        Check.outside("no first one", () -> cast.code('p', 1, 0));
        Check.outside("no first one below 0", () -> cast.code('p', -1, 0));
        Check.due("the second one has no meaning for 'p'", () -> told(cast, 'p', 0, MOST), "coded");
        Check.outside("no first one for 'b'", () -> cast.code('b', 2, 0));
        Check.outside("no second one for 'b'", () -> cast.code('b', 0, 2));
        Check.outside("no second one for 'b' below 0", () -> cast.code('b', 0, LEAST));
        Check.due("both the same", () -> told(cast, 'b', 1, 1), "coded");
        Check.due("three are coded", cast::pictures, 3);
        for (int i = 3; i < 12; i++) {
            Check.due("picture " + i, () -> cast.code('i', 0, 0), GREY_BITS);
        }
        cast.setBucket(1, 0);
        Check.due("12 pictures", () -> cast.code('i', 0, 0), "throws IllegalStateException");
        Check.outside("no such kept one of 12", () -> cast.code('p', 3, 0));
        Check.illegal("no such kind of 12", () -> cast.code('q', 3, 0));
        Check.due("12 are coded", cast::pictures, 12);
    }

    private static String told(BlockCast cast, char kind, int first, int second) {
        return cast.code(kind, first, second) > 0 ? "coded" : "empty";
    }

    private static void codeAnswers() {
        BlockCast cast = Made.flat(128, 8, 0);
        Check.due("bits of grey", () -> cast.code('i', 0, 0), GREY_BITS);
        Check.due("six bytes", () -> cast.bytes(0, 0), 6);
        for (int i = 0; i < 6; i++) {
            int index = i;
            Check.due("all bits are 0, so is L", () -> cast.byteAt(0, 0, index), 0);
        }
        cast.setSlices(2);
        int bits = cast.code('i', 0, 0);
        Check.due("bits of two slices", () -> 8 * (cast.bytes(1, 0) + cast.bytes(1, 1)), bits);
        BlockCast refused = Made.flat(128, 8, 0);
        refused.setBucket(GREY_BITS - 1, 5);
        Check.due("one bit too much", () -> refused.code('i', 0, 0), "throws UnsupportedOperationException");
        Check.due("refused: no picture", refused::pictures, 0);
        Check.due("refused: nothing kept", refused::kept, 0);
        Check.due("refused: bucket", refused::bucket, 0);
        Check.due("refused: coarseness", refused::coarseness, 8);
        refused.setBucket(GREY_BITS, 5);
        Check.due("just room enough", () -> refused.code('i', 0, 0), GREY_BITS);
        Check.due("full", refused::bucket, GREY_BITS);
        Check.due("refused again", () -> refused.code('i', 0, 0), "throws UnsupportedOperationException");
        Check.due("a refused picture lets nothing leak", refused::bucket, GREY_BITS);
        Check.due("after a refused picture", refused::kept, 1);
    }

    private static void bucketSteers() {
        steer("three quarters", 64, 8, 8);
        steer("more than three quarters", 63, 8, 9);
        steer("a quarter", 192, 8, 8);
        steer("less than a quarter", 193, 8, 7);
        steer("up to 40", 48, 40, 40);
        steer("not below 1", 99999, 1, 1);
        BlockCast none = Made.flat(128, 8, 0);
        none.code('i', 0, 0);
        Check.due("no bucket steers nothing", none::coarseness, 8);
        BlockCast cast = Made.flat(128, 8, 0);
        cast.setBucket(48, 48);
        cast.code('i', 0, 0);
        cast.code('i', 0, 0);
        Check.due("the first picture's", () -> cast.coarsenessOf(0), 8);
        Check.due("the second picture's", () -> cast.coarsenessOf(1), 9);
        Check.due("the next one's", cast::coarseness, 10);
    }

    private static void steer(String what, int room, int before, int after) {
        BlockCast cast = Made.flat(128, before, 0);
        cast.setBucket(room, 0);
        Check.due(what + ": bits", () -> cast.code('i', 0, 0), GREY_BITS);
        Check.due(what, cast::coarseness, after);
    }

    private static void bucketLeaks() {
        BlockCast cast = Made.flat(128, 8, 0);
        cast.setBucket(1000, 30);
        cast.code('i', 0, 0);
        Check.due("not below 0", cast::bucket, 48);
        cast.code('i', 0, 0);
        Check.due("less the leak", cast::bucket, 66);
        BlockCast leaky = Made.flat(128, 8, 0);
        leaky.setBucket(50, 48);
        leaky.code('i', 0, 0);
        Check.due("room comes from the leak", () -> leaky.code('i', 0, 0), GREY_BITS);
        Check.due("all has leaked", leaky::bucket, 48);
    }

    private static void keptPictures() {
        BlockCast cast = Made.flat(128, 8, 0);
        Check.outside("none is kept", () -> cast.keptAt(0));
        cast.code('i', 0, 0);
        cast.setKept(false);
        cast.code('i', 0, 0);
        Check.due("one is not kept", cast::kept, 1);
        Check.due("the other one is", () -> cast.keptAt(0), 0);
        cast.setKept(true);
        cast.code('i', 0, 0);
        cast.code('i', 0, 0);
        Check.due("three are kept", cast::kept, 3);
        Check.due("the newest", () -> cast.keptAt(0), 3);
        Check.due("the middle", () -> cast.keptAt(1), 2);
        Check.due("the oldest", () -> cast.keptAt(2), 0);
        cast.code('i', 0, 0);
        Check.due("still three", cast::kept, 3);
        Check.due("the oldest went", () -> cast.keptAt(2), 2);
        Check.due("pictures", cast::pictures, 5);
        for (int place : new int[] {-1, 3, LEAST, MOST}) {
            Check.outside("keptAt", () -> cast.keptAt(place));
        }
    }

    // ---- promises 18 to 27: coded pictures

    private static void settingsOfPictures() {
        BlockCast cast = Made.flat(128, 3, 0);
        cast.code('i', 0, 0);
        cast.setCoarseness(11);
        cast.code('p', 0, 0);
        cast.code('b', 0, 1);
        cast.setCoarseness(20);
        Check.due("kind 0", () -> cast.kindOf(0), 'i');
        Check.due("kind 1", () -> cast.kindOf(1), 'p');
        Check.due("kind 2", () -> cast.kindOf(2), 'b');
        Check.due("coarseness 0", () -> cast.coarsenessOf(0), 3);
        Check.due("coarseness 1", () -> cast.coarsenessOf(1), 11);
        Check.due("coarseness 2", () -> cast.coarsenessOf(2), 11);
    }

    private static void bytesOfSlices() {
        BlockCast cast = Made.flat(128, 8, 0);
        cast.code('i', 0, 0);
        cast.setSlices(2);
        cast.fill(0, 8, 16, 8, 0);
        cast.code('i', 0, 0);
        cast.setSlices(1);
        Check.outside("no second slice", () -> cast.bytes(0, 1));
        Check.outside("no byte of a second slice", () -> cast.byteAt(0, 1, 0));
        Check.due("the lower slice is heavier", () -> cast.bytes(1, 1) > cast.bytes(1, 0), true);
        // its first bits are 0 and 0 for the mode and 1 for the levels, all with even chances: L is an eighth of all
        Check.due("the first byte of the lower slice", () -> cast.byteAt(1, 1, 0) >> 5, 1);
        for (int slice : new int[] {-1, 2, LEAST, MOST}) {
            Check.outside("no such slice", () -> cast.bytes(1, slice));
            Check.outside("no byte of no slice", () -> cast.byteAt(1, slice, 0));
        }
        int last = cast.bytes(1, 1) - 1;
        Check.due("the last byte is one", () -> cast.byteAt(1, 1, last) >> 8, 0);
        for (int index : new int[] {-1, last + 1, LEAST, MOST}) {
            Check.outside("no such byte", () -> cast.byteAt(1, 1, index));
        }
    }

    private static void parts() {
        BlockCast cast = Made.flat(100, 1, 1);
        cast.fill(3, 3, 1, 1, 127);
        cast.fill(11, 3, 1, 1, 128);
        cast.code('i', 0, 0);
        Check.due("27 is not more than 24 plus 3", () -> cast.partAt(0, 0, 0), 8);
        Check.due("28 is", () -> cast.partAt(0, 8, 7), 4);
        Check.due("flat", () -> cast.partAt(0, 15, 15), 8);
        cast.setTools(6);
        cast.code('i', 0, 0);
        Check.due("no splitting", () -> cast.partAt(1, 8, 7), 8);
        cast.setTools(1);
        cast.setCoarseness(2);
        cast.code('i', 0, 0);
        Check.due("28 is not more than 24 plus 6", () -> cast.partAt(2, 8, 7), 8);
    }

    private static void borderModes() {
        BlockCast cast = Made.flat(50, 1, 0);
        cast.code('i', 0, 0);
        Check.due("of all the same the lowest", () -> cast.modeAt(0, 0, 0), 0);
        Check.due("from the left", () -> cast.modeAt(0, 8, 0), 2);
        Check.due("from above", () -> cast.modeAt(0, 7, 15), 1);
        Check.due("from both", () -> cast.modeAt(0, 8, 8), 0);
        cast.slope(20, 2, 4);
        cast.code('i', 0, 0);
        Check.due("both less the corner", () -> cast.modeAt(1, 15, 15), 3);
        Made.paint(cast, 131);
        cast.code('i', 0, 0);
        Check.due("3 more than the border", () -> cast.levelAt(2, 0, 0), 12);
        // left 131, above 128: the mode 0 guesses 130 and costs 64, the mode 2 costs 4
        Check.due("2 times the mode is cheaper", () -> cast.modeAt(2, 8, 0), 2);
        // at the block 1 the mode 0 guesses the sum of both borders plus 8, by 16: 2080 by 16, which is 130
        cast.fill(8, 0, 8, 8, 130);
        cast.code('i', 0, 0);
        Check.due("the mean, a half rounded up", () -> cast.modeAt(3, 8, 0), 0);
        Check.due("is exact", () -> cast.levelAt(3, 8, 0), 0);
    }

    private static void leaningModes() {
        BlockCast cast = Made.flat(50, 1, 0);
        cast.code('i', 0, 0);
        Made.paint(cast, 101);
        cast.code('i', 0, 0);
        Made.paint(cast, 76);
        cast.code('b', 0, 1);
        Check.due("mean of both, a half rounded up", () -> cast.modeAt(2, 0, 0), 6);
        Check.due("with a first vector", () -> cast.vectorAt(2, 0, 0, false), 808);
        Check.due("and a second one", () -> cast.vectorAt(2, 0, 0, true), 808);
        Check.due("exact", () -> cast.levelAt(2, 0, 0), 0);
        Check.due("of both the same the lowest", () -> cast.modeAt(2, 8, 8), 0);
        Made.paint(cast, 50);
        cast.setKept(false);
        cast.code('b', 1, 2);
        Check.due("of the second", () -> cast.modeAt(3, 0, 0), 5);
        Check.missing("no first vector", () -> cast.vectorAt(3, 0, 0, false));
        Check.due("a second vector", () -> cast.vectorAt(3, 0, 0, true), 808);
        cast.code('b', 2, 1);
        Check.due("of the first", () -> cast.modeAt(4, 0, 0), 4);
        Check.due("a first vector", () -> cast.vectorAt(4, 0, 0, false), 808);
        Check.missing("no second vector", () -> cast.vectorAt(4, 0, 0, true));
        Check.missing("none with a mode of the border", () -> cast.vectorAt(4, 8, 8, false));
        cast.code('b', 2, 2);
        Check.due("both the same", () -> cast.modeAt(5, 0, 0), 4);
        cast.code('p', 2, 0);
        Check.due("'p'", () -> cast.modeAt(6, 0, 0), 4);
    }

    private static void vectors() {
        BlockCast cast = Made.flat(0, 1, 4);
        cast.slope(0, 2, 0);
        cast.code('i', 0, 0);
        Check.due("the slope is exact", () -> cast.errorOf(0), 0);
        cast.slope(1, 2, 0);
        cast.setKept(false);
        cast.code('p', 0, 0);
        Check.due("half a pixel to the right", () -> cast.vectorAt(1, 0, 0, false), 908);
        cast.slope(2, 2, 0);
        cast.code('p', 0, 0);
        Check.due("a pixel to the right", () -> cast.vectorAt(2, 0, 0, false), 1008);
        cast.setTools(0);
        cast.slope(1, 2, 0);
        cast.code('p', 0, 0);
        Check.due("none odd", () -> cast.vectorAt(3, 0, 0, false), 808);
        BlockCast down = Made.flat(0, 1, 4);
        down.slope(0, 0, 2);
        down.code('i', 0, 0);
        down.slope(1, 0, 2);
        down.code('p', 0, 0);
        Check.due("half a pixel down", () -> down.vectorAt(1, 0, 0, false), 809);
        BlockCast moved = Made.flat(0, 1, 0);
        moved.grain(5, 90);
        moved.grain(6, 90);
        moved.grain(7, 90);
        moved.code('i', 0, 0);
        moved.move(1, 2);
        moved.code('p', 0, 0);
        Check.due("from one to the left and two above", () -> moved.vectorAt(1, 8, 8, false), 604);
        moved.move(-4, -5);
        moved.code('p', 1, 0);
        Check.due("from three to the right and below", () -> moved.vectorAt(2, 7, 7, false), 1414);
    }

    private static void vectorEdges() {
        // a picture with the columns 0 to 15 times 10, moved by more than the reach: all outside has the nearest
        BlockCast cast = Made.flat(0, 1, 0);
        cast.slope(0, 10, 0);
        cast.code('i', 0, 0);
        cast.slope(150, 0, 0);
        cast.fill(0, 0, 8, 16, 0);
        cast.code('p', 0, 0);
        // in the block 1 all is 150: the columns 8 to 15 moved by 4 to the right guess 120 130 140 150 150 150 150 150
        Check.due("the nearest pixel inside", () -> cast.vectorAt(1, 8, 0, false), 1608);
        Check.due("the mode", () -> cast.modeAt(1, 8, 0), 4);
        // in the block 0 all is 0: moved by 4 to the left, 0 0 0 0 0 10 20 30
        Check.due("and at the left side", () -> cast.vectorAt(1, 0, 0, false), 8);
        BlockCast tie = Made.flat(0, 1, 4);
        tie.setKept(true);
        tie.fill(0, 0, 16, 16, 90);
        tie.code('i', 0, 0);
        tie.code('p', 0, 0);
        Check.due("the shortest of all the same", () -> tie.vectorAt(1, 0, 0, false), 808);
        // a checkerboard of pixels: moved by 1 in any of four directions it is the same; by rising second numbers first
        BlockCast board = Made.flat(0, 1, 0);
        for (int y = 0; y < 16; y++) {
            for (int x = y % 2; x < 16; x += 2) {
                board.fill(x, y, 1, 1, 200);
            }
        }
        board.code('i', 0, 0);
        board.move(1, 0);
        board.code('p', 0, 0);
        Check.due("the first one by its second number", () -> board.vectorAt(1, 8, 8, false), 806);
        Check.due("at the upper edge, by its first number", () -> board.vectorAt(1, 8, 0, false), 608);
    }

    private static void levels() {
        BlockCast cast = Made.flat(50, 1, 0);
        cast.code('i', 0, 0);
        Check.due("the sum", () -> cast.levelAt(0, 0, 0), -312);
        Check.due("of each square", () -> cast.levelAt(0, 4, 4), -312);
        Check.due("no other", () -> cast.levelAt(0, 1, 0), 0);
        Check.due("built", () -> cast.built(0, 5, 5), 50);
        Check.due("without an error", () -> cast.errorOf(0), 0);
        BlockCast bump = Made.flat(128, 1, 0);
        bump.fill(1, 0, 1, 1, 131);
        bump.code('i', 0, 0);
        // 3 plus 1, divided by 4; the column 1 of H is 1 1 -1 -1
        int[] row = {1, 1, -1, -1};
        for (int v = 0; v < 4; v++) {
            for (int u = 0; u < 4; u++) {
                int x = u;
                int y = v;
                Check.due("level " + u + ", " + v, () -> bump.levelAt(0, x, y), row[u]);
            }
        }
        Check.due("built with the error of the levels", () -> bump.built(0, 1, 0), 132);
        Check.due("and the others", () -> bump.built(0, 0, 0), 128);
        Check.due("errorOf", () -> bump.errorOf(0), 1);
        bump.fill(1, 0, 1, 1, 130);
        bump.code('i', 0, 0);
        Check.due("2 plus 1, divided by 4", () -> bump.levelAt(1, 0, 0), 0);
        Check.due("the square of 2", () -> bump.errorOf(1), 4);
        bump.fill(1, 0, 1, 1, 0);
        Check.due("the canvas as it was", () -> bump.errorOf(1), 4);
        bump.fill(1, 0, 1, 1, 128);
        bump.fill(0, 1, 1, 1, 125);
        bump.code('i', 0, 0);
        Check.due("v is down", () -> bump.levelAt(2, 3, 1), -1);
        Check.due("and has the sign", () -> bump.levelAt(2, 3, 2), 1);
        // 16 times 127, plus 30, divided by 120, is 17, which is built back as 128
        BlockCast held = Made.flat(255, 30, 0);
        held.code('i', 0, 0);
        Check.due("level of 127", () -> held.levelAt(0, 0, 0), 17);
        Check.due("held at 255", () -> held.built(0, 0, 0), 255);
        // 16 times 128, plus 40, divided by 160, is 13, which is built back as -130
        BlockCast low = Made.flat(0, 40, 0);
        low.code('i', 0, 0);
        Check.due("level of -128", () -> low.levelAt(0, 0, 0), -13);
        Check.due("held at 0", () -> low.built(0, 0, 0), 0);
    }

    private static BlockCast halves(int tools, int slices, int left, int right) {
        BlockCast cast = Made.flat(left, 8, tools);
        cast.setSlices(slices);
        cast.fill(8, 0, 8, 16, right);
        cast.code('i', 0, 0);
        return cast;
    }

    private static void pair(String what, BlockCast cast, int a, int b) {
        Check.due(what + ", a", () -> cast.built(0, 7, 0), a);
        Check.due(what + ", b", () -> cast.built(0, 8, 0), b);
    }

    private static void smoothing() {
        pair("a quarter of 8", halves(2, 1, 128, 136), 130, 134);
        pair("a quarter of -8", halves(2, 1, 136, 128), 134, 130);
        pair("6 cut towards 0", halves(2, 1, 128, 134), 129, 133);
        pair("-6 cut towards 0", halves(2, 1, 134, 128), 133, 129);
        pair("10 is not less than 8 plus 2", halves(2, 1, 128, 138), 128, 138);
        pair("not to be smoothed", halves(5, 1, 128, 136), 128, 136);
        pair("in both slices", halves(2, 2, 128, 136), 130, 134);
        BlockCast rows = Made.flat(128, 8, 2);
        rows.fill(0, 4, 16, 4, 136);
        rows.code('i', 0, 0);
        Check.due("above the edge 4", () -> rows.built(0, 9, 3), 130);
        Check.due("below the edge 4", () -> rows.built(0, 9, 4), 134);
        Check.due("above the edge 8", () -> rows.built(0, 9, 7), 134);
        BlockCast lower = Made.flat(128, 8, 2);
        lower.fill(0, 8, 16, 8, 136);
        lower.code('i', 0, 0);
        lower.setSlices(2);
        lower.code('i', 0, 0);
        Check.due("one slice, above the edge 8", () -> lower.built(0, 3, 7), 130);
        Check.due("one slice, below the edge 8", () -> lower.built(0, 3, 8), 134);
        Check.due("two slices, above the edge 8", () -> lower.built(1, 3, 7), 128);
        Check.due("two slices, below the edge 8", () -> lower.built(1, 3, 8), 136);
        Check.due("the sum of squares", () -> lower.errorOf(0), 16 * (4 + 4));
        // the canvas is made what the picture is when it is smoothed, and then a part of it costs nothing
        BlockCast leant = halves(2, 1, 128, 136);
        leant.fill(7, 0, 1, 16, 130);
        leant.fill(8, 0, 1, 16, 134);
        leant.setTools(0);
        leant.code('p', 0, 0);
        Check.due("leant on as it is smoothed", () -> leant.modeAt(1, 0, 0), 4);
        Check.due("and nothing is left", () -> leant.errorOf(1), 0);
    }

    private static void slicesAreApart() {
        BlockCast cast = Made.flat(50, 1, 0);
        cast.setSlices(2);
        cast.code('i', 0, 0);
        Check.due("above the lower slice all counts as 128", () -> cast.levelAt(0, 0, 8), -312);
        Check.due("the mode at the left", () -> cast.modeAt(0, 0, 8), 0);
        Check.due("the mode at the right", () -> cast.modeAt(0, 8, 8), 2);
        int bytes = cast.bytes(0, 0);
        Check.due("both begin anew", () -> cast.bytes(0, 1), bytes);
        for (int i = 0; i < bytes; i++) {
            int index = i;
            Check.due("with the same bytes", () -> cast.byteAt(0, 1, index), cast.byteAt(0, 0, index));
        }
    }

    private static void noSuchPictureOrPixel() {
        BlockCast cast = Made.flat(128, 8, 0);
        cast.code('i', 0, 0);
        for (int picture : new int[] {-1, 1, 12, LEAST, MOST}) {
            Check.outside("kindOf", () -> cast.kindOf(picture));
            Check.outside("coarsenessOf", () -> cast.coarsenessOf(picture));
            Check.outside("bytes", () -> cast.bytes(picture, 0));
            Check.outside("byteAt", () -> cast.byteAt(picture, 0, 0));
            Check.outside("partAt", () -> cast.partAt(picture, 0, 0));
            Check.outside("modeAt", () -> cast.modeAt(picture, 0, 0));
            Check.outside("vectorAt", () -> cast.vectorAt(picture, 0, 0, false));
            Check.outside("levelAt", () -> cast.levelAt(picture, 0, 0));
            Check.outside("built", () -> cast.built(picture, 0, 0));
            Check.outside("errorOf", () -> cast.errorOf(picture));
            Check.outside("heaviest", () -> cast.heaviest(picture));
        }
        for (int[] w : Made.wrongPixels()) {
            Check.outside("partAt", () -> cast.partAt(0, w[0], w[1]));
            Check.outside("modeAt", () -> cast.modeAt(0, w[0], w[1]));
            Check.outside("vectorAt", () -> cast.vectorAt(0, w[0], w[1], true));
            Check.outside("levelAt", () -> cast.levelAt(0, w[0], w[1]));
            Check.outside("built", () -> cast.built(0, w[0], w[1]));
        }
    }

    // ---- promises 28 and 29

    private static void heaviest() {
        BlockCast cast = Made.flat(128, 8, 0);
        Check.outside("none", () -> cast.heaviest(0));
        cast.code('i', 0, 0);
        cast.code('i', 0, 0);
        cast.grain(3, 60);
        cast.code('i', 0, 0);
        Made.paint(cast, 128);
        cast.code('i', 0, 0);
        Check.due("the most", () -> cast.heaviest(0), 2);
        Check.due("of several the lowest", () -> cast.heaviest(1), 0);
        Check.due("then the next", () -> cast.heaviest(2), 1);
        Check.due("then the last", () -> cast.heaviest(3), 3);
        Check.outside("no more", () -> cast.heaviest(4));
        Check.outside("below 0", () -> cast.heaviest(-1));
    }

    private static void commonest() {
        BlockCast cast = Made.flat(128, 8, 0);
        Check.missing("none", cast::commonest);
        cast.slope(0, 0, 16);
        cast.setTools(1);
        cast.setCoarseness(1);
        cast.code('i', 0, 0);
        // the row values guess all from the left but at the left side: 12 parts of 16 have the mode 2
        Check.due("of parts of 4", () -> cast.modeAt(0, 15, 15), 2);
        Check.due("commonest", cast::commonest, 2);
        BlockCast large = Made.flat(128, 8, 0);
        large.code('i', 0, 0);
        large.setTools(1);
        large.fill(0, 0, 1, 1, 0);
        large.code('i', 0, 0);
        Check.due("parts of 8 count once", large::commonest, 0);
        BlockCast tie = Made.flat(50, 1, 0);
        tie.setSlices(2);
        tie.code('i', 0, 0);
        Check.due("0 2 0 2", tie::commonest, 0);
        tie.code('p', 0, 0);
        tie.code('p', 0, 0);
        Check.due("0 2 0 2 and 4 4 4 4 twice", tie::commonest, 4);
    }

    // ---- promises 30 to 35: the decoder

    private static void sendRefuses() {
        BlockCast cast = Made.flat(128, 8, 0);
        Check.missing("nothing to send, and no such slice", () -> cast.send(9));
        cast.code('i', 0, 0);
        for (int lost : new int[] {2, 3, 4, -1, LEAST, MOST}) {
            Check.illegal("no such slices of one", () -> cast.send(lost));
        }
        Check.missing("nothing is shown", cast::shown);
        Check.due("send", () -> cast.send(0), 'c');
        cast.setSlices(2);
        cast.code('i', 0, 0);
        for (int lost : new int[] {4, 5, -1, LEAST, MOST}) {
            Check.illegal("no such slices of two", () -> cast.send(lost));
        }
        Check.due("both lost", () -> cast.send(3), 'b');
        Check.missing("all are sent", () -> cast.send(0));
        Check.due("still shown", cast::shown, 1);
    }

    private static void concealing() {
        BlockCast cast = Made.flat(50, 1, 0);
        cast.code('i', 0, 0);
        Check.due("all lost", () -> cast.send(1), 'b');
        Check.due("grey", () -> cast.shownAt(0, 0), 128);
        Check.due("all differ", cast::drift, 256);
        Made.paint(cast, 80);
        cast.code('i', 0, 0);
        Check.due("'i' needs none", () -> cast.send(0), 'c');
        Check.due("no drift", cast::drift, 0);
        Made.paint(cast, 90);
        cast.setSlices(2);
        cast.code('i', 0, 0);
        Check.due("the lower one lost", () -> cast.send(2), 'b');
        Check.due("came", () -> cast.shownAt(15, 7), 90);
        Check.due("as shown last", () -> cast.shownAt(0, 8), 80);
        Check.due("half of all differ", cast::drift, 128);
        Made.paint(cast, 70);
        cast.code('i', 0, 0);
        Check.due("the upper one lost", () -> cast.send(1), 'b');
        Check.due("as shown last, above", () -> cast.shownAt(15, 7), 90);
        Check.due("came, below", () -> cast.shownAt(0, 8), 70);
        concealedIsSmoothed();
    }

    private static void concealedIsSmoothed() {
        BlockCast cast = halves(0, 1, 128, 136);
        cast.send(0);
        cast.setTools(2);
        cast.code('i', 0, 0);
        Check.due("lost", () -> cast.send(1), 'b');
        Check.due("then smoothed, a", () -> cast.shownAt(7, 3), 130);
        Check.due("then smoothed, b", () -> cast.shownAt(8, 3), 134);
        Check.due("as the coder's", cast::drift, 0);
        Check.due("but broken", cast::isClean, false);
    }

    private static void leaningOnBroken() {
        BlockCast cast = Made.flat(50, 1, 0);
        cast.code('i', 0, 0);
        cast.code('i', 0, 0);
        Made.paint(cast, 60);
        cast.code('p', 1, 0);
        cast.code('p', 0, 0);
        cast.code('b', 1, 2);
        cast.code('b', 1, 0);
        cast.send(1);
        cast.send(0);
        Check.due("on a broken one", () -> cast.send(0), 'b');
        // all pixels of the picture 2 lean on 128 instead of 50, or on borders that do
        Check.due("what it leans on is missing in it", () -> cast.shownAt(0, 0), 138);
        Check.due("on a broken one again", () -> cast.send(0), 'b');
        Check.due("one of two is broken", () -> cast.send(0), 'b');
        Check.due("both are broken", () -> cast.send(0), 'b');
        cast.join(0);
        Check.due("now with all", () -> cast.send(0), 'c');
        Check.due("picture 1", () -> cast.send(0), 'c');
        Check.due("picture 2", () -> cast.send(0), 'c');
        Check.due("picture 2, pixel", () -> cast.shownAt(0, 0), 60);
        Check.due("picture 3", () -> cast.send(0), 'c');
        Check.due("picture 4", () -> cast.send(0), 'c');
        Check.due("picture 5", () -> cast.send(0), 'c');
        cast.join(1);
        cast.send(0);
        Check.due("the place 1 is not there", () -> cast.send(0), 'b');
        Check.due("it has 128 everywhere", () -> cast.shownAt(0, 0), 138);
        Check.due("there, but broken", () -> cast.send(0), 'b');
        Check.due("the second one is there and clean, the first one is broken", () -> cast.send(0), 'b');
    }

    private static void unkeptPictures() {
        BlockCast cast = Made.flat(50, 1, 0);
        cast.code('i', 0, 0);
        cast.setKept(false);
        Made.paint(cast, 200);
        cast.code('i', 0, 0);
        Made.paint(cast, 50);
        cast.code('p', 0, 0);
        cast.send(0);
        Check.due("lost, and not kept", () -> cast.send(1), 'b');
        Check.due("leans on the kept one", () -> cast.send(0), 'c');
        Check.due("with its pixels", () -> cast.shownAt(9, 9), 50);
        Check.due("one was kept", () -> cast.join(0), 1);
    }

    private static void joining() {
        BlockCast cast = Made.flat(128, 8, 0);
        Check.outside("below 0", () -> cast.join(-1));
        Check.outside("beyond the next", () -> cast.join(1));
        Check.due("at the next one", () -> cast.join(0), 0);
        for (int i = 0; i < 5; i++) {
            cast.code('i', 0, 0);
        }
        for (int i = 0; i < 4; i++) {
            cast.send(0);
        }
        Check.due("at most three are kept", () -> cast.join(2), 3);
        Check.missing("nothing is shown then", cast::shown);
        Check.missing("no pixel", () -> cast.shownAt(0, 0));
        Check.due("sent next", () -> cast.send(0), 'c');
        Check.due("the picture 2", cast::shown, 2);
        for (int picture : new int[] {6, -1, LEAST, MOST}) {
            Check.outside("no such picture", () -> cast.join(picture));
        }
        Check.due("a refused join changes nothing", cast::shown, 2);
        Check.due("at the one that will be coded", () -> cast.join(5), 1);
        Check.missing("it is not yet", () -> cast.send(0));
        cast.code('i', 0, 0);
        Check.due("now it is", () -> cast.send(1), 'b');
        Check.due("the picture 5", cast::shown, 5);
        Check.due("nothing was shown before: 128", () -> cast.shownAt(3, 3), 128);
    }

    private static void shown() {
        BlockCast cast = Made.flat(50, 1, 0);
        cast.code('i', 0, 0);
        Check.missing("shown", cast::shown);
        Check.missing("isClean", cast::isClean);
        Check.missing("drift", cast::drift);
        Check.missing("shownAt", () -> cast.shownAt(0, 0));
        for (int[] w : Made.wrongPixels()) {
            Check.outside("first the pixel", () -> cast.shownAt(w[0], w[1]));
        }
        cast.send(0);
        Check.due("shown", cast::shown, 0);
        Check.due("isClean", cast::isClean, true);
        Check.due("drift", cast::drift, 0);
        Check.due("shownAt", () -> cast.shownAt(15, 15), 50);
        for (int[] w : Made.wrongPixels()) {
            Check.outside("no such pixel", () -> cast.shownAt(w[0], w[1]));
        }
    }

    // ---- promises 36 and 37

    private static void totals() {
        BlockCast cast = Made.flat(128, 8, 0);
        Check.due("no pictures", cast::meanBits, "throws ArithmeticException");
        Check.due("none sent", cast::cleanShare, "throws ArithmeticException");
        cast.code('i', 0, 0);
        Check.due("one picture", cast::meanBits, 48.0);
        Check.due("none sent yet", cast::cleanShare, "throws ArithmeticException");
        cast.grain(3, 60);
        int bits = cast.code('i', 0, 0) + cast.code('i', 0, 0) + 48;
        Check.due("three pictures", cast::meanBits, (double) bits / (double) 3);
        cast.send(0);
        Check.due("all clean", cast::cleanShare, 1.0f);
        cast.send(1);
        cast.join(0);
        cast.send(1);
        Check.due("of all that were sent", cast::cleanShare, (float) 1 / (float) 3);
    }
}
