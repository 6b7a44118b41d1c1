/** The sentences of the promises 12 to 17, of the pictures and of the bucket, each with a test of its own. */
final class CodingEdgeTest {
    private static final int LEAST = Made.LEAST;
    private static final int MOST = Made.MOST;
    private static final int GREY_BITS = Made.GREY_BITS;
    private static final String REFUSED = "throws UnsupportedOperationException";
    private static final String TOO_MANY = "throws IllegalStateException";

    private CodingEdgeTest() {
    }

    public static void main(String[] args) {
        kinds();
        firstPlace();
        secondPlace();
        noMeaning();
        noSuchKept();
        answers();
        atMostTwelve();
        settingsOfThen();
        refusedByTheBucket();
        bucketLeaks();
        bucketSteers();
        bucketSteersAtTheEnds();
        counts();
        atMostThreeKept();
        keptAtPlaces();
        coarseness();
        bucket();
        Check.end("CodingEdgeTest");
    }

    private static String told(BlockCast cast, char kind, int first, int second) {
        return cast.code(kind, first, second) > 0 ? "coded" : "empty";
    }

    // ---- promise 12

    private static void kinds() {
        BlockCast cast = Made.flat(128, 8, 0);
        Check.sentence("Promise 12", "Codes the canvas as the next picture.");
        Check.sentence("Promise 12", "'i', 'p' or 'b'");
        Check.due("'i'", () -> told(cast, 'i', 0, 0), "coded");
        Check.due("'p'", () -> told(cast, 'p', 0, 0), "coded");
        Check.due("'b'", () -> told(cast, 'b', 0, 0), "coded");
        Check.sentence("Promise 12", "if there is no such kind");
        for (char kind : new char[] {'h', 'j', 'o', 'q', 'a', 'c', 'I', 'P', 'B', ' ', 0, 105 + 256, 112 + 256, 98 + 256,
            65535}) {
            Check.illegal("the kind " + (int) kind, () -> cast.code(kind, 0, 0));
        }
        Check.due("pictures after refused ones", cast::pictures, 3);
    }

    /** Keeps pictures that are 50, 100 and 200 everywhere, the last one as the newest, at the coarseness 1. */
    private static BlockCast threeKept() {
        BlockCast cast = Made.flat(50, 1, 0);
        cast.code('i', 0, 0);
        Made.paint(cast, 100);
        cast.code('i', 0, 0);
        Made.paint(cast, 200);
        cast.code('i', 0, 0);
        cast.setKept(false);
        return cast;
    }

    private static void firstPlace() {
        BlockCast cast = threeKept();
        int[] values = {200, 100, 50};
        Check.sentence("Promise 12", "the place of the first picture on which it leans, among the kept ones, 0 "
                + "for the newest; of no meaning for 'i'");
        for (int i = 0; i < 3; i++) {
            int place = i;
            Made.paint(cast, values[i]);
            int number = cast.pictures();
            cast.code('p', place, 0);
            Check.due("the place " + place, () -> cast.modeAt(number, 0, 0), 4);
            cast.code('p', (place + 1) % 3, 0);
            Check.due("another place than " + place, () -> cast.modeAt(number + 1, 0, 0) == 4
                    && cast.levelAt(number + 1, 0, 0) == 0, false);
        }
    }

    private static void secondPlace() {
        BlockCast cast = threeKept();
        int[] values = {200, 100, 50};
        Check.sentence("Promise 12", "the place of the second one; of no meaning but for 'b'");
        for (int i = 0; i < 3; i++) {
            int place = i;
            Made.paint(cast, values[i]);
            int number = cast.pictures();
            cast.code('b', (place + 1) % 3, place);
            Check.due("the second place " + place, () -> cast.modeAt(number, 0, 0), 5);
            cast.code('b', place, (place + 1) % 3);
            Check.due("the first place " + place, () -> cast.modeAt(number + 1, 0, 0), 4);
        }
        Check.sentence("Pictures", "which may be the same");
        Check.due("both the same", () -> told(cast, 'b', 2, 2), "coded");
    }

    private static void noMeaning() {
        BlockCast cast = Made.flat(128, 8, 0);
        Check.sentence("Pictures", "A picture is of the kind 'i', which needs no other one, 'p', which leans on "
                + "a kept picture, or 'b', which leans on two");
        Check.due("'i' without kept ones", () -> cast.code('i', 0, 0), GREY_BITS);
        for (int place : new int[] {-1, 1, 3, LEAST, MOST}) {
            Check.sentence("Promise 12", "of no meaning for 'i'");
            Check.due("the first place " + place, () -> cast.code('i', place, 0), GREY_BITS);
            Check.sentence("Promise 12", "of no meaning but for 'b'");
            Check.due("the second place " + place + " for 'p'", () -> told(cast, 'p', 0, place), "coded");
        }
        BlockCast other = Made.flat(128, 8, 0);
        Check.due("the second place for 'i'", () -> other.code('i', 0, LEAST), GREY_BITS);
        Check.due("both for 'i'", () -> other.code('i', MOST, MOST), GREY_BITS);
    }

    private static void noSuchKept() {
        Check.sentence("Promise 12", "if there is no such kept picture, for one that has a meaning");
        for (int kept = 0; kept <= 3; kept++) {
            BlockCast cast = Made.flat(128, 8, 0);
            for (int i = 0; i < kept; i++) {
                cast.code('i', 0, 0);
            }
            for (int place : new int[] {-1, kept, kept + 1, 12, LEAST, MOST}) {
                Check.outside("'p', " + place + " of " + kept, () -> cast.code('p', place, 0));
                Check.outside("'b', first " + place + " of " + kept, () -> cast.code('b', place, 0));
                Check.outside("'b', second " + place + " of " + kept, () -> cast.code('b', 0, place));
                Check.outside("'b', both " + place + " of " + kept, () -> cast.code('b', place, place));
            }
            int pictures = kept;
            Check.due("pictures after refused ones", cast::pictures, pictures);
            Check.due("kept after refused ones", cast::kept, pictures);
            if (kept > 0) {
                Check.due("'p' on the oldest one", () -> told(cast, 'p', pictures - 1, 0), "coded");
            }
        }
        BlockCast unkept = Made.flat(128, 8, 0);
        unkept.setKept(false);
        unkept.code('i', 0, 0);
        Check.outside("a picture that is not kept", () -> unkept.code('p', 0, 0));
        Check.outside("nor for 'b'", () -> unkept.code('b', 0, 0));
        Check.due("'i' needs none", () -> unkept.code('i', 0, 0), GREY_BITS);
    }

    private static void answers() {
        Check.sentence("Promise 12", "Returns the bits of the picture.");
        Check.sentence("The arithmetic coder", "The bits of a picture are 8 times the bytes of its slices.");
        BlockCast cast = new BlockCast();
        for (int i = 0; i < 12; i++) {
            int number = i;
            cast.setSlices(1 + i % 2);
            cast.grain(i, 5 + 4 * i);
            int bits = cast.code(i == 0 ? 'i' : i % 3 == 0 ? 'p' : 'b', 0, 0);
            Check.due("the picture " + i, () -> 8 * (cast.bytes(number, 0)
                    + (number % 2 == 1 ? cast.bytes(number, 1) : 0)), bits);
        }
    }

    private static void atMostTwelve() {
        BlockCast cast = Made.flat(128, 8, 0);
        for (int i = 0; i < 11; i++) {
            cast.code('i', 0, 0);
        }
        Check.sentence("Pictures", "At most 12 pictures are coded, numbered from 0");
        Check.due("the last one", () -> told(cast, 'b', 0, 1), "coded");
        Check.due("12 are coded", cast::pictures, 12);
        Check.due("the number 0", () -> cast.kindOf(0), 'i');
        Check.due("the number 11", () -> cast.kindOf(11), 'b');
        Check.outside("no number 12", () -> cast.kindOf(12));
        Check.sentence("Promise 12", "if there are 12 pictures");
        Check.due("'i'", () -> cast.code('i', 0, 0), TOO_MANY);
        Check.due("'p'", () -> cast.code('p', 2, 0), TOO_MANY);
        Check.due("'b'", () -> cast.code('b', 2, 1), TOO_MANY);
        Check.due("still 12", cast::pictures, 12);
        Check.due("the newest kept one", () -> cast.keptAt(0), 11);
        cast.setKept(false);
        Check.due("one that would not be kept", () -> cast.code('i', 0, 0), TOO_MANY);
        BlockCast unkept = Made.flat(128, 8, 0);
        unkept.setKept(false);
        for (int i = 0; i < 12; i++) {
            unkept.code('i', 0, 0);
        }
        Check.due("12 that are not kept", () -> unkept.code('i', 0, 0), TOO_MANY);
    }

    private static void settingsOfThen() {
        Check.sentence("Pictures", "each with the settings of then");
        BlockCast cast = Made.flat(100, 8, 1);
        cast.setSlices(2);
        cast.fill(3, 3, 1, 1, 200);
        cast.code('i', 0, 0);
        int bytes = cast.bytes(0, 1);
        cast.setSlices(1);
        cast.setTools(2);
        cast.setCoarseness(40);
        cast.setKept(false);
        cast.code('p', 0, 0);
        cast.setSlices(2);
        cast.setTools(7);
        cast.setCoarseness(1);
        cast.setKept(true);
        Check.due("coarseness", () -> cast.coarsenessOf(0), 8);
        Check.due("the second picture's", () -> cast.coarsenessOf(1), 40);
        Check.due("two slices", () -> cast.bytes(0, 1), bytes);
        Check.outside("one slice", () -> cast.bytes(1, 1));
        Check.due("split", () -> cast.partAt(0, 0, 0), 4);
        Check.due("not split", () -> cast.partAt(1, 0, 0), 8);
        Check.due("the decoder builds it so", () -> cast.send(0), 'c');
        Check.due("as the coder has it", cast::drift, 0);
        Check.due("and the second one", () -> cast.send(0), 'c');
        Check.due("as the coder has it", cast::drift, 0);
        Check.due("which it does not keep", () -> cast.join(0), 1);
    }

    // ---- the bucket

    private static void refusedByTheBucket() {
        Check.sentence("Promise 12", "if the bucket refuses it");
        Check.sentence("The bucket", "if it would have more than its room, the picture is refused");
        BlockCast cast = Made.flat(128, 8, 0);
        cast.setBucket(GREY_BITS - 1, 0);
        Check.due("a bit less room", () -> cast.code('i', 0, 0), REFUSED);
        cast.setBucket(1, 99999);
        Check.due("the least room, with the greatest leak", () -> cast.code('i', 0, 0), REFUSED);
        Check.due("no picture", cast::pictures, 0);
        Check.due("none is kept", cast::kept, 0);
        Check.due("an empty bucket", cast::bucket, 0);
        Check.due("the coarseness", cast::coarseness, 8);
        Check.missing("nothing to send", () -> cast.send(0));
        cast.setBucket(GREY_BITS, 10);
        Check.due("just as much room", () -> cast.code('i', 0, 0), GREY_BITS);
        Check.due("it is full", cast::bucket, GREY_BITS);
        for (int i = 0; i < 5; i++) {
            Check.due("a full one, " + i, () -> cast.code('i', 0, 0), REFUSED);
        }
        Check.due("nothing has leaked", cast::bucket, GREY_BITS);
        Check.due("the coarseness grew but once", cast::coarseness, 9);
        Check.due("one picture", cast::pictures, 1);
        cast.setBucket(2 * GREY_BITS - 10, 10);
        cast.code('i', 0, 0);
        Check.due("room enough behind the leak", () -> cast.code('i', 0, 0), GREY_BITS);
        cast.setBucket(2 * GREY_BITS - 11, 10);
        cast.code('i', 0, 0);
        Check.due("a bit too little behind the leak", () -> cast.code('i', 0, 0), REFUSED);
        cast.setBucket(0, 0);
        Check.due("none refuses nothing", () -> cast.code('i', 0, 0), GREY_BITS);
        BlockCast heavy = new BlockCast();
        heavy.setBucket(100, 0);
        heavy.setTools(0);
        heavy.grain(3, 99);
        Check.due("a heavy one", () -> heavy.code('i', 0, 0), REFUSED);
        Made.paint(heavy, 128);
        Check.due("a light one then", () -> heavy.code('i', 0, 0), GREY_BITS);
        Check.due("is the picture 0", heavy::pictures, 1);
        Check.due("with the canvas of then", () -> heavy.built(0, 5, 5), 128);
    }

    private static void bucketLeaks() {
        Check.sentence("The bucket", "A bucket has a room and a leak.");
        Check.sentence("The bucket", "When a picture is coded, it loses the leak, but not below 0, then gets the "
                + "bits of the picture");
        int[] leaks = {0, 1, 47, 48, 49, 99999};
        int[] second = {96, 95, 49, 48, 48, 48};
        for (int i = 0; i < leaks.length; i++) {
            BlockCast cast = Made.flat(128, 8, 0);
            cast.setBucket(1000, leaks[i]);
            cast.code('i', 0, 0);
            Check.due("the leak " + leaks[i] + " of nothing", cast::bucket, 48);
            cast.code('i', 0, 0);
            Check.due("the leak " + leaks[i] + " of 48", cast::bucket, second[i]);
        }
    }

    private static void steer(int room, int leak, int before, int after) {
        BlockCast cast = Made.flat(128, before, 0);
        cast.setBucket(room, leak);
        Check.due("the bits at " + before, () -> cast.code('i', 0, 0), GREY_BITS);
        Check.due("48 of " + room + " at " + before, cast::coarseness, after);
        Check.due("the coarseness of the picture", () -> cast.coarsenessOf(0), before);
    }

    private static void bucketSteers() {
        Check.sentence("The bucket", "Behind a picture that is coded, if the bucket has more than three quarters "
                + "of its room, the coarseness grows by 1");
        steer(48, 0, 8, 9);
        steer(62, 0, 8, 9);
        steer(63, 0, 8, 9);
        steer(64, 0, 8, 8);
        steer(65, 0, 8, 8);
        steer(63, 99999, 8, 9);
        Check.sentence("The bucket", "if it has less than a quarter, it becomes 1 less");
        steer(190, 0, 8, 8);
        steer(191, 0, 8, 8);
        steer(192, 0, 8, 8);
        steer(193, 0, 8, 7);
        steer(194, 0, 8, 7);
        steer(99999, 0, 8, 7);
        BlockCast cast = Made.flat(128, 8, 0);
        cast.setBucket(128, 0);
        cast.code('i', 0, 0);
        Check.due("48 of 128", cast::coarseness, 8);
        cast.code('i', 0, 0);
        Check.due("96 of 128", cast::coarseness, 8);
        cast.setBucket(127, 0);
        cast.code('i', 0, 0);
        cast.code('i', 0, 0);
        Check.due("96 of 127", cast::coarseness, 9);
    }

    private static void bucketSteersAtTheEnds() {
        Check.sentence("The bucket", "the coarseness grows by 1, up to 40");
        steer(48, 0, 39, 40);
        steer(48, 0, 40, 40);
        steer(193, 0, 40, 39);
        Check.sentence("The bucket", "it becomes 1 less, but not below 1");
        steer(193, 0, 2, 1);
        steer(193, 0, 1, 1);
        steer(63, 0, 1, 2);
        BlockCast cast = Made.flat(128, 3, 0);
        cast.setBucket(99999, 0);
        for (int i = 0; i < 6; i++) {
            cast.code('i', 0, 0);
        }
        Check.due("again and again", () -> "" + cast.coarsenessOf(0) + cast.coarsenessOf(1) + cast.coarsenessOf(2)
                + cast.coarsenessOf(3) + cast.coarsenessOf(4) + cast.coarsenessOf(5), "321111");
        BlockCast none = Made.flat(128, 8, 0);
        none.code('i', 0, 0);
        Check.due("without a bucket", none::coarseness, 8);
        none.setBucket(48, 0);
        none.setBucket(0, 0);
        none.code('i', 0, 0);
        Check.due("with one that was taken away", none::coarseness, 8);
    }

    // ---- promises 13 to 17

    private static void counts() {
        BlockCast cast = Made.flat(128, 8, 0);
        Check.sentence("Promise 13", "Returns the number of pictures that are coded.");
        Check.sentence("Promise 13", "Returns the number of pictures.");
        Check.due("none", cast::pictures, 0);
        for (int i = 1; i <= 12; i++) {
            cast.setKept(i % 2 == 0);
            cast.code('i', 0, 0);
            Check.due("kept or not", cast::pictures, i);
        }
        cast.send(0);
        cast.join(12);
        Check.due("whatever is sent", cast::pictures, 12);
    }

    private static void atMostThreeKept() {
        BlockCast cast = Made.flat(128, 8, 0);
        Check.sentence("Promise 14", "Returns the number of kept pictures of the coder.");
        Check.sentence("Promise 14", "Returns the number of pictures.");
        Check.due("none", cast::kept, 0);
        Check.sentence("Settings", "At most 3 pictures are kept, the newest one first; when there would be more, "
                + "the oldest one goes.");
        int[] counts = {1, 2, 3, 3, 3};
        for (int i = 0; i < counts.length; i++) {
            int number = i;
            cast.code('i', 0, 0);
            Check.due("after " + (i + 1), cast::kept, counts[i]);
            Check.due("the newest is first", () -> cast.keptAt(0), number);
            Check.due("the oldest", () -> cast.keptAt(cast.kept() - 1), Math.max(0, number - 2));
        }
        cast.setKept(false);
        cast.code('i', 0, 0);
        Check.due("none goes for one that is not kept", () -> cast.keptAt(2), 2);
        cast.send(1);
        Check.due("whatever the decoder keeps", cast::kept, 3);
        cast.join(0);
        Check.due("and when it joins anew", cast::kept, 3);
    }

    private static void keptAtPlaces() {
        BlockCast cast = Made.flat(128, 8, 0);
        Check.sentence("Promise 15", "if there is no such place");
        for (int kept = 0; kept <= 4; kept++) {
            int end = Math.min(kept, 3);
            for (int place : new int[] {-1, end, end + 1, LEAST, MOST}) {
                Check.outside("the place " + place + " of " + end, () -> cast.keptAt(place));
            }
            cast.code('i', 0, 0);
        }
        Check.sentence("Promise 15", "Returns a kept picture of the coder.");
        Check.sentence("Promise 15", "its place, 0 for the newest");
        Check.sentence("Promise 15", "Returns the number of the picture.");
        Check.due("0", () -> cast.keptAt(0), 4);
        Check.due("1", () -> cast.keptAt(1), 3);
        Check.due("2", () -> cast.keptAt(2), 2);
    }

    private static void coarseness() {
        BlockCast cast = Made.flat(128, 8, 0);
        Check.sentence("Promise 16", "Returns the coarseness that the next picture will have.");
        Check.sentence("Promise 16", "Returns the coarseness.");
        cast.setBucket(48, 48);
        cast.code('i', 0, 0);
        Check.due("the next one's", cast::coarseness, 9);
        Check.due("not the last one's", () -> cast.coarsenessOf(0), 8);
        cast.code('i', 0, 0);
        Check.due("which it then has", () -> cast.coarsenessOf(1), 9);
        cast.setCoarseness(33);
        Check.due("as it is set", cast::coarseness, 33);
    }

    private static void bucket() {
        BlockCast cast = Made.flat(128, 8, 0);
        Check.sentence("Promise 17", "if there is none");
        Check.missing("none", cast::bucket);
        cast.code('i', 0, 0);
        Check.missing("none, but bits", cast::bucket);
        Check.sentence("Promise 17", "Returns how many bits the bucket has.");
        Check.sentence("Promise 17", "Returns the number of bits.");
        cast.setBucket(99999, 0);
        Check.due("none yet", cast::bucket, 0);
        cast.code('i', 0, 0);
        Check.due("one picture's", cast::bucket, 48);
        cast.setSlices(2);
        int bits = cast.code('i', 0, 0);
        Check.due("and both slices'", cast::bucket, 48 + bits);
        cast.setBucket(0, 0);
        Check.sentence("Promise 17", "if there is none");
        Check.missing("taken away", cast::bucket);
    }
}
