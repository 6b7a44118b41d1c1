/** The sentences of the promises 30 to 37 and of the decoder, each with a test of its own. */
final class DecoderEdgeTest {
    private static final int LEAST = Made.LEAST;
    private static final int MOST = Made.MOST;
    private static final String NONE_YET = "throws ArithmeticException";

    private DecoderEdgeTest() {
    }

    public static void main(String[] args) {
        sendOneByOne();
        sendNoNext();
        sendNoSuchSlices();
        keptAsTheCoder();
        samePlace();
        notThere();
        lostSlices();
        lostIsAsShownLast();
        smoothedWhenLost();
        cleanOrBroken();
        cleanIsAsTheCoder();
        joinedAnew();
        joinTakes();
        joinRefuses();
        joinBehindTheLast();
        nothingShown();
        shownAt();
        drift();
        meanBits();
        cleanShare();
        Check.end("DecoderEdgeTest");
    }

    /** A coder whose pictures, of the kinds that are given, are all 50 at the coarseness 1, each exact. */
    private static BlockCast coded(String kinds) {
        BlockCast cast = Made.flat(50, 1, 0);
        for (char kind : kinds.toCharArray()) {
            cast.code(kind, 0, 0);
        }
        return cast;
    }

    private static String sent(BlockCast cast, int... losses) {
        StringBuilder text = new StringBuilder();
        for (int lost : losses) {
            text.append(cast.send(lost));
        }
        return text.toString();
    }

    // ---- promise 30

    private static void sendOneByOne() {
        Check.sentence("The decoder", "It is sent the pictures one by one, each with all slices or without some");
        Check.sentence("Promise 30", "Sends the next picture to the decoder, which shows it.");
        BlockCast cast = Made.flat(0, 1, 0);
        for (int i = 0; i < 12; i++) {
            Made.paint(cast, 10 * i);
            cast.code('i', 0, 0);
        }
        Check.sentence("Promise 30", "Returns 'c' if it is clean, 'b' if it is broken.");
        for (int i = 0; i < 12; i++) {
            int number = i;
            Check.due("the picture " + i, () -> cast.send(number % 4 == 3 ? 1 : 0), i % 4 == 3 ? 'b' : 'c');
            Check.due("is shown", cast::shown, i);
            Check.due("with its pixels", () -> cast.shownAt(7, 7), i % 4 == 3 ? 10 * i - 10 : 10 * i);
        }
        Check.sentence("Promise 30", "if there is no next picture");
        Check.missing("all 12 are sent", () -> cast.send(0));
        Check.due("the last one is still shown", cast::shown, 11);
    }

    private static void sendNoNext() {
        Check.sentence("Promise 30", "if there is no next picture");
        BlockCast cast = coded("");
        for (int lost : new int[] {0, 1, 4, -1, LEAST, MOST}) {
            Check.missing("none is coded, " + lost, () -> cast.send(lost));
        }
        cast.setBucket(1, 0);
        Check.told(() -> cast.code('i', 0, 0));
        Check.missing("one was refused", () -> cast.send(0));
        cast.setBucket(0, 0);
        cast.code('i', 0, 0);
        Check.due("one is coded", () -> cast.send(0), 'c');
        for (int lost : new int[] {0, 1, 4, -1, LEAST, MOST}) {
            Check.missing("it is sent, " + lost, () -> cast.send(lost));
        }
        Check.due("refused ones change nothing", cast::cleanShare, 1.0f);
        cast.code('i', 0, 0);
        Check.due("one more is coded", () -> cast.send(0), 'c');
        Check.due("the next one", cast::shown, 1);
    }

    private static void sendNoSuchSlices() {
        Check.sentence("Promise 30", "the lost slices, as the sum of 1 for the slice 0 and 2 for the slice 1");
        BlockCast cast = coded("i");
        cast.setSlices(2);
        cast.code('i', 0, 0);
        cast.code('i', 0, 0);
        cast.code('i', 0, 0);
        cast.code('i', 0, 0);
        cast.setSlices(1);
        Check.sentence("Promise 30", "if the picture has no such slices");
        for (int lost : new int[] {2, 3, 4, 5, -1, -2, LEAST, MOST}) {
            Check.illegal(lost + " of one slice", () -> cast.send(lost));
        }
        Check.missing("refused ones show nothing", cast::shown);
        Check.due("and send nothing", cast::cleanShare, NONE_YET);
        Check.due("1 of one slice", () -> cast.send(1), 'b');
        for (int lost : new int[] {4, 5, 6, 7, 8, -1, LEAST, MOST}) {
            Check.illegal(lost + " of two slices", () -> cast.send(lost));
        }
        Check.due("the picture 0 is still shown", cast::shown, 0);
        Check.due("the settings of now are of no meaning: 3", () -> cast.send(3), 'b');
        Check.due("2 of two", () -> cast.send(2), 'b');
        Check.due("1 of two", () -> cast.send(1), 'b');
        Check.due("0 of two", () -> cast.send(0), 'c');
        Check.due("all are sent", cast::shown, 4);
        Check.sentence("Exceptions", "If several conditions of a method apply, the exception that is listed "
                + "first is thrown.");
        Check.missing("no next picture, and no such slices", () -> cast.send(9));
    }

    // ---- the decoder

    private static void keptAsTheCoder() {
        Check.sentence("The decoder", "and keeps pictures in the same way as the coder");
        BlockCast cast = coded("iiiii");
        int[] counts = {0, 1, 2, 3, 3, 3};
        for (int i = 0; i < counts.length; i++) {
            for (int j = 0; j < i; j++) {
                cast.send(j % 2);
            }
            Check.due("after " + i, () -> cast.join(0), counts[i]);
        }
        BlockCast some = Made.flat(50, 1, 0);
        for (int i = 0; i < 5; i++) {
            some.setKept(i % 2 == 1);
            some.code('i', 0, 0);
        }
        sent(some, 0, 0, 0, 0, 0);
        Check.due("only those that the coder keeps", () -> some.join(0), 2);
    }

    private static void samePlace() {
        Check.sentence("The decoder", "A picture on which one leans is that which has the same place among the "
                + "kept ones");
        BlockCast cast = Made.flat(60, 1, 0);
        cast.code('i', 0, 0);
        Made.paint(cast, 90);
        cast.code('i', 0, 0);
        cast.setKept(false);
        Made.paint(cast, 200);
        cast.code('i', 0, 0);
        cast.setKept(true);
        Made.paint(cast, 60);
        cast.code('p', 1, 0);
        Made.paint(cast, 90);
        cast.code('p', 1, 0);
        Made.paint(cast, 75);
        cast.code('b', 0, 1);
        Check.due("all clean", () -> sent(cast, 0, 0, 0, 0), "cccc");
        Check.due("the older one", () -> cast.shownAt(3, 3), 60);
        Check.due("the next", () -> cast.send(0), 'c');
        Check.due("the middle one, as one more is kept", () -> cast.shownAt(3, 3), 90);
        Check.due("the next", () -> cast.send(0), 'c');
        Check.due("the mean of both", () -> cast.shownAt(3, 3), 75);
        Check.due("as the coder has it", cast::drift, 0);
        cast.join(1);
        Check.due("without the picture 0", () -> sent(cast, 0, 0), "cc");
        Check.due("the place 1 is not there", () -> cast.send(0), 'b');
        Check.due("the place 1 is the picture 1, not the 2", () -> cast.send(0), 'c');
        Check.due("with its pixels", () -> cast.shownAt(3, 3), 90);
    }

    private static void notThere() {
        Check.sentence("The decoder", "one that is not there has 128 everywhere");
        BlockCast cast = Made.flat(50, 1, 0);
        cast.code('i', 0, 0);
        Made.paint(cast, 60);
        cast.code('p', 0, 0);
        Check.due("it leans on 50 and has 10 more", () -> cast.modeAt(1, 0, 0) * 1000 + cast.levelAt(1, 0, 0), 4040);
        cast.join(1);
        Check.due("none is there", () -> cast.send(0), 'b');
        Check.due("128 and 10", () -> cast.shownAt(0, 0), 138);
        Check.due("138, as all else lean on it or its border", () -> cast.shownAt(15, 15), 138);
        Check.due("all differ", cast::drift, 256);
        BlockCast both = Made.flat(50, 1, 0);
        both.code('i', 0, 0);
        Made.paint(both, 100);
        both.code('i', 0, 0);
        Made.paint(both, 76);
        both.code('b', 0, 1);
        Check.due("between both", () -> both.modeAt(2, 0, 0) * 1000 + both.levelAt(2, 0, 0), 6004);
        both.join(1);
        both.send(0);
        Check.due("the second one is not there", () -> both.send(0), 'b');
        Check.due("100 and 128, and 1 more", () -> both.shownAt(0, 0), 115);
        both.join(2);
        Check.due("none is there", () -> both.send(0), 'b');
        Check.due("128 twice, and 1 more", () -> both.shownAt(0, 0), 129);
    }

    private static void lostSlices() {
        Check.sentence("The decoder", "Parts in a lost slice are as the picture that was shown last has these "
                + "pixels, or 128 if there is none");
        int[][] want = {{0, 50, 50}, {1, 128, 50}, {2, 50, 128}, {3, 128, 128}};
        for (int[] w : want) {
            BlockCast cast = Made.flat(50, 1, 0);
            cast.setSlices(2);
            cast.code('i', 0, 0);
            cast.send(w[0]);
            for (int place = 0; place < 256; place += 5) {
                int x = place % 16;
                int y = place / 16;
                Check.due("lost " + w[0] + ", at " + x + ", " + y, () -> cast.shownAt(x, y), y < 8 ? w[1] : w[2]);
            }
            Check.due("how many differ", cast::drift, (w[1] == 128 ? 128 : 0) + (w[2] == 128 ? 128 : 0));
        }
        BlockCast one = coded("i");
        one.send(1);
        Check.due("all of one slice", () -> one.shownAt(0, 0) + one.shownAt(15, 15), 256);
    }

    private static void lostIsAsShownLast() {
        Check.sentence("The decoder", "Parts in a lost slice are as the picture that was shown last has these "
                + "pixels");
        BlockCast cast = Made.flat(50, 1, 0);
        cast.code('i', 0, 0);
        cast.setKept(false);
        Made.paint(cast, 80);
        cast.code('i', 0, 0);
        cast.setKept(true);
        Made.paint(cast, 90);
        cast.code('i', 0, 0);
        Made.paint(cast, 95);
        cast.code('i', 0, 0);
        cast.send(0);
        cast.send(0);
        Check.due("lost", () -> cast.send(1), 'b');
        Check.due("one that was not kept", () -> cast.shownAt(2, 2), 80);
        Check.due("lost again", () -> cast.send(1), 'b');
        Check.due("one that was broken", () -> cast.shownAt(2, 2), 80);
        Check.due("which is the picture 3", cast::shown, 3);
        cast.join(2);
        Check.due("lost behind a join", () -> cast.send(1), 'b');
        Check.due("128, as none was shown", () -> cast.shownAt(2, 2), 128);
        cast.join(0);
        sent(cast, 0, 0);
        Check.due("lost", () -> cast.send(1), 'b');
        Check.due("as it was shown before", () -> cast.shownAt(2, 2), 80);
    }

    private static void smoothedWhenLost() {
        Check.sentence("The decoder", "then the edges are smoothed");
        for (int slices = 1; slices <= 2; slices++) {
            BlockCast cast = Made.flat(0, 8, 0);
            Made.quarters(cast, 128, 136, 120, 128);
            cast.code('i', 0, 0);
            cast.setTools(2);
            cast.setSlices(slices);
            cast.code('i', 0, 0);
            Check.due("the canvas is exact", () -> cast.errorOf(0), 0);
            cast.send(0);
            int all = slices == 2 ? 3 : 1;
            Check.due("all lost", () -> cast.send(all), 'b');
            Check.due("as the coder has it, with slices " + slices, cast::drift, 0);
            Check.due("across", () -> cast.shownAt(7, 0) + " " + cast.shownAt(8, 0), "130 134");
            Check.due("down", () -> cast.shownAt(0, 7) + " " + cast.shownAt(0, 8), slices == 2 ? "128 120" : "126 122");
        }
        BlockCast cast = Made.flat(128, 8, 2);
        cast.fill(8, 0, 8, 16, 136);
        cast.setSlices(2);
        cast.code('i', 0, 0);
        cast.setTools(0);
        cast.code('i', 0, 0);
        cast.send(0);
        cast.send(1);
        Check.due("not if they are not to be", () -> cast.shownAt(7, 0) + " " + cast.shownAt(8, 0), "130 134");
        Check.due("below, where it came", () -> cast.shownAt(7, 8) + " " + cast.shownAt(8, 8), "128 136");
    }

    private static void cleanOrBroken() {
        Check.sentence("The decoder", "A picture is clean if all of its slices came, and those on which it leans "
                + "are there and clean; otherwise it is broken.");
        Check.due("'i' needs none", () -> sent(coded("iii"), 1, 0, 0), "bcc");
        Check.due("'p' on a clean one", () -> sent(coded("ip"), 0, 0), "cc");
        Check.due("'p' on a broken one", () -> sent(coded("ipp"), 1, 0, 0), "bbb");
        Check.due("'p' that is lost itself", () -> sent(coded("ipp"), 0, 1, 0), "cbb");
        Check.due("an 'i' mends it", () -> sent(coded("ipip"), 1, 0, 0, 0), "bbcc");
        BlockCast cast = Made.flat(50, 1, 0);
        cast.code('i', 0, 0);
        cast.code('i', 0, 0);
        cast.setKept(false);
        cast.code('b', 0, 1);
        cast.code('b', 1, 0);
        cast.code('b', 0, 0);
        cast.code('b', 1, 1);
        cast.code('p', 0, 1);
        cast.code('p', 1, 0);
        int[][] losses = {{0, 0}, {1, 0}, {0, 1}, {1, 1}};
        String[] want = {"cccccccc", "bcbbcbcb", "cbbbbcbc", "bbbbbbbb"};
        for (int i = 0; i < losses.length; i++) {
            int[] l = losses[i];
            cast.join(0);
            Check.due("lost " + l[0] + " and " + l[1], () -> sent(cast, l[0], l[1], 0, 0, 0, 0, 0, 0), want[i]);
        }
        cast.join(1);
        Check.due("the picture 0 is not there", () -> sent(cast, 0, 0, 0, 0, 0, 0, 0), "cbbcbcb");
        cast.join(2);
        Check.due("none is there", () -> sent(cast, 0, 0, 0, 0, 0, 0), "bbbbbb");
        BlockCast two = Made.flat(50, 1, 0);
        two.setSlices(2);
        two.code('i', 0, 0);
        two.code('p', 0, 0);
        for (int lost = 0; lost < 4; lost++) {
            int of = lost;
            two.join(0);
            Check.due("a slice of two lost: " + lost, () -> sent(two, of, 0), lost == 0 ? "cc" : "bb");
            two.join(0);
            Check.due("of the second picture: " + lost, () -> sent(two, 0, of), lost == 0 ? "cc" : "cb");
        }
        Check.due("a broken one may have all pixels", two::drift, 0);
        Check.due("and is broken", two::isClean, false);
    }

    private static void cleanIsAsTheCoder() {
        Check.sentence("Terms", "What is clean is, pixel by pixel, what the coder has.");
        for (int seed = 0; seed < 40; seed++) {
            BlockCast cast = new BlockCast();
            for (int i = 0; i < 12; i++) {
                cast.grain(seed * 100 + i, 1 + (seed * 7 + i * 5) % 60);
                cast.move(i % 3, (seed + i) % 4 - 1);
                cast.setTools((seed + i) % 8);
                cast.setSlices(1 + (seed + i) / 3 % 2);
                cast.setKept((seed + i) % 5 != 0);
                cast.setCoarseness(1 + (seed * 3 + i * 7) % 40);
                int kept = cast.kept();
                cast.code(kept == 0 ? 'i' : "ipb".charAt((seed + i) % 3), i % Math.max(1, kept), seed % Math.max(1, kept));
            }
            cast.join(seed % 5);
            for (int i = seed % 5; i < 12; i++) {
                int lost = (seed + i) % 7 == 0 ? 1 : 0;
                if (cast.send(lost) == 'c') {
                    Check.due("the seed " + seed + ", the picture " + i, cast::drift, 0);
                    for (int place = 0; place < 256; place += 37) {
                        int x = place % 16;
                        int y = place / 16;
                        Check.due("the pixel " + x + ", " + y, () -> cast.shownAt(x, y), cast.built(cast.shown(), x, y));
                    }
                }
            }
        }
    }

    private static void joinedAnew() {
        Check.sentence("The decoder", "When the decoder joins anew, it has no kept pictures and has shown none.");
        BlockCast cast = coded("iip");
        sent(cast, 0, 0);
        cast.join(2);
        Check.missing("none is shown", cast::shown);
        Check.missing("no pixel", () -> cast.shownAt(0, 0));
        Check.missing("nothing is clean", cast::isClean);
        Check.missing("nothing drifts", cast::drift);
        Check.due("none is kept", () -> cast.join(2), 0);
        Check.due("so that 'p' has nothing", () -> cast.send(0), 'b');
        Check.due("but is kept", () -> cast.join(0), 1);
        Check.due("the coder keeps its own", cast::kept, 3);
    }

    // ---- promise 31

    private static void joinTakes() {
        Check.sentence("Promise 31", "Lets the decoder join anew, at a picture, which is sent next.");
        Check.sentence("Promise 31", "the number of the picture, up to that of the next one that will be coded");
        BlockCast cast = coded("iiiii");
        for (int picture = 0; picture < 5; picture++) {
            cast.join(picture);
            cast.send(0);
            Check.due("at " + picture, cast::shown, picture);
        }
        cast.join(3);
        cast.join(1);
        cast.send(0);
        Check.due("the last join counts", cast::shown, 1);
        Check.due("at the next one", () -> cast.join(5), 1);
        Check.missing("which is not coded yet", () -> cast.send(0));
        cast.code('i', 0, 0);
        cast.send(0);
        Check.due("but then", cast::shown, 5);
        BlockCast none = coded("");
        Check.due("0 of none", () -> none.join(0), 0);
        none.code('i', 0, 0);
        Check.due("which then is sent", () -> none.send(0), 'c');
        Check.sentence("Promise 31", "Returns the number of pictures that it had kept.");
        int[] losses = {0, 1, 0, 0, 1};
        cast.join(0);
        for (int i = 0; i < 5; i++) {
            cast.send(losses[i]);
            cast.send(losses[4 - i]);
            int had = 2;
            Check.due("clean or broken", () -> cast.join(0), had);
        }
        Check.due("none since", () -> cast.join(0), 0);
    }

    private static void joinRefuses() {
        Check.sentence("Promise 31", "if there is no such picture");
        for (int count : new int[] {0, 1, 4, 12}) {
            BlockCast cast = coded("iiiiiiiiiiii".substring(0, count));
            if (count > 1) {
                sent(cast, 0, 1);
            }
            for (int picture : new int[] {-1, count + 1, count + 2, 13, LEAST, MOST}) {
                Check.outside(picture + " of " + count, () -> cast.join(picture));
            }
            if (count > 1) {
                Check.due("refused ones leave what is shown", cast::shown, 1);
                Check.due("the next one", () -> cast.send(0), 'c');
                Check.due("is the next one", cast::shown, 2);
                Check.due("and what is kept", () -> cast.join(count), 3);
            }
        }
    }

    private static void joinBehindTheLast() {
        Check.sentence("Promise 31", "the number of the picture, up to that of the next one that will be coded");
        BlockCast cast = coded("iiiiiiiiiiii");
        sent(cast, 0, 0);
        Check.due("12 of 12", () -> cast.join(12), 2);
        Check.missing("there is no next one", () -> cast.send(0));
        Check.missing("none is shown", cast::shown);
        Check.due("back at the last one", () -> cast.join(11), 0);
        Check.due("which is sent", () -> cast.send(0), 'c');
        Check.due("and shown", cast::shown, 11);
    }

    // ---- promises 32 to 35

    private static void askNothingShown(String when, BlockCast cast) {
        Check.sentence("Promise 32", "if none is");
        Check.missing(when, cast::shown);
        Check.sentence("Promise 33", "if no picture is shown");
        Check.missing(when, () -> cast.shownAt(0, 0));
        Check.missing(when, () -> cast.shownAt(15, 15));
        Check.sentence("Promise 34", "if no picture is shown");
        Check.missing(when, cast::isClean);
        Check.sentence("Promise 35", "if no picture is shown");
        Check.missing(when, cast::drift);
    }

    private static void nothingShown() {
        BlockCast cast = coded("");
        askNothingShown("on a new one", cast);
        cast.code('i', 0, 0);
        askNothingShown("nothing was sent", cast);
        Check.illegal("no such slice", () -> cast.send(2));
        askNothingShown("a refused one", cast);
        cast.send(0);
        Check.sentence("Promise 32", "Returns the picture that is shown.");
        Check.sentence("Promise 32", "Returns the number of the picture.");
        Check.due("shown", cast::shown, 0);
        Check.sentence("Promise 34", "Returns whether the picture that is shown is clean.");
        Check.sentence("Promise 34", "Returns whether it is.");
        Check.due("clean", cast::isClean, true);
        cast.code('i', 0, 0);
        Check.due("coding shows nothing", cast::shown, 0);
        cast.send(1);
        Check.sentence("Promise 32", "Returns the picture that is shown.");
        Check.due("the next one", cast::shown, 1);
        Check.sentence("Promise 34", "Returns whether the picture that is shown is clean.");
        Check.due("broken", cast::isClean, false);
        Check.missing("there is no next one", () -> cast.send(0));
        Check.due("still broken", cast::isClean, false);
        cast.join(0);
        askNothingShown("joined anew", cast);
    }

    private static void shownAt() {
        BlockCast cast = Made.flat(0, 1, 0);
        cast.slope(0, 1, 16);
        cast.code('i', 0, 0);
        Check.sentence("Promise 33", "if there is no such pixel");
        Check.sentence("Exceptions", "If several conditions of a method apply, the exception that is listed "
                + "first is thrown.");
        for (int[] w : Made.wrongPixels()) {
            Check.outside("none is shown, and " + w[0] + ", " + w[1], () -> cast.shownAt(w[0], w[1]));
        }
        cast.send(0);
        Check.sentence("Promise 33", "if there is no such pixel");
        for (int[] w : Made.wrongPixels()) {
            Check.outside(w[0] + ", " + w[1], () -> cast.shownAt(w[0], w[1]));
        }
        Check.sentence("Promise 33", "Returns a pixel of the picture that is shown.");
        Check.sentence("Promise 33", "Returns the value.");
        Check.sentence("Promise 33", "the column");
        Check.sentence("Promise 33", "the row");
        int[][] pixels = {{0, 0}, {15, 0}, {0, 15}, {15, 15}, {4, 11}};
        for (int[] p : pixels) {
            Check.due(p[0] + ", " + p[1], () -> cast.shownAt(p[0], p[1]), cast.built(0, p[0], p[1]));
        }
    }

    private static void drift() {
        Check.sentence("Promise 35", "Returns how many pixels of the picture that is shown differ from those "
                + "that the coder has built.");
        Check.sentence("Promise 35", "Returns the number of pixels.");
        BlockCast cast = Made.flat(128, 1, 0);
        cast.fill(2, 2, 1, 1, 255);
        cast.code('i', 0, 0);
        Made.paint(cast, 128);
        cast.code('i', 0, 0);
        cast.fill(0, 0, 4, 4, 50);
        cast.code('i', 0, 0);
        Made.paint(cast, 255);
        Check.due("clean", () -> cast.send(0), 'c');
        Check.due("none", cast::drift, 0);
        cast.send(0);
        Check.due("lost", () -> cast.send(1), 'b');
        Check.due("the square that the shown one has not", cast::drift, 16);
        cast.join(1);
        Check.due("lost behind a join", () -> cast.send(1), 'b');
        Check.due("128 is what the coder has", cast::drift, 0);
        cast.setCoarseness(1);
        cast.code('i', 0, 0);
        cast.join(3);
        cast.send(1);
        Check.due("all", cast::drift, 256);
    }

    // ---- promises 36 and 37

    private static void meanBits() {
        BlockCast cast = Made.flat(128, 8, 0);
        Check.sentence("Promise 36", "if there are no pictures");
        Check.due("none", cast::meanBits, NONE_YET);
        cast.setBucket(1, 0);
        Check.told(() -> cast.code('i', 0, 0));
        Check.due("one that was refused", cast::meanBits, NONE_YET);
        cast.setBucket(0, 0);
        Check.sentence("Promise 36", "Returns the mean number of bits of a picture.");
        Check.sentence("Promise 36", "Returns the sum of the bits divided by the number of pictures, both "
                + "converted to double.");
        long sum = 0;
        for (int i = 1; i <= 12; i++) {
            cast.grain(i, 5 * i);
            cast.setSlices(1 + i % 2);
            sum += cast.code('i', 0, 0);
            Check.due("after " + i, cast::meanBits, (double) sum / i);
        }
        cast.send(1);
        cast.join(5);
        Check.due("whatever is sent", cast::meanBits, (double) sum / 12);
    }

    private static void cleanShare() {
        BlockCast cast = coded("ipppi");
        Check.sentence("Promise 37", "if none was sent");
        Check.due("none", cast::cleanShare, NONE_YET);
        Check.illegal("refused", () -> cast.send(2));
        cast.join(1);
        Check.due("a refused one, and a join", cast::cleanShare, NONE_YET);
        cast.join(0);
        Check.sentence("Promise 37", "Returns the share of the pictures that were sent which were clean.");
        Check.sentence("Promise 37", "Returns their number divided by that of all that were sent, both converted "
                + "to float.");
        cast.send(1);
        Check.due("0 of 1", cast::cleanShare, 0.0f);
        cast.send(0);
        Check.due("0 of 2", cast::cleanShare, 0.0f);
        cast.join(0);
        Check.due("a join sends none", cast::cleanShare, 0.0f);
        cast.send(0);
        Check.due("1 of 3, those before the join among them", cast::cleanShare, 1.0f / 3.0f);
        cast.send(0);
        Check.due("2 of 4", cast::cleanShare, 0.5f);
        cast.send(0);
        Check.due("3 of 5", cast::cleanShare, 3.0f / 5.0f);
        cast.join(0);
        cast.send(0);
        Check.due("one that was sent before counts again", cast::cleanShare, 4.0f / 6.0f);
        cast.join(4);
        cast.send(0);
        Check.due("5 of 7", cast::cleanShare, 5.0f / 7.0f);
        Check.missing("none is left", () -> cast.send(0));
        Check.due("which sends none", cast::cleanShare, 5.0f / 7.0f);
        BlockCast all = coded("i");
        all.send(0);
        Check.due("1 of 1", all::cleanShare, 1.0f);
    }
}
