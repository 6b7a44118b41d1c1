/**
 * "A method that throws an exception changes nothing": in several states every refused call is made, and then all that
 * other calls answer, and what they answer when things go on, is compared with an object on which it was not made.
 */
final class RefusalTest {
    private static final int LEAST = Made.LEAST;
    private static final int MOST = Made.MOST;
    private static final String ILLEGAL = "throws IllegalArgumentException";
    private static final String OUTSIDE = "throws IndexOutOfBoundsException";
    private static final String MISSING = "throws NoSuchElementException";
    private static final String ARITHMETIC = "throws ArithmeticException";
    private static final String TOO_MANY = "throws IllegalStateException";
    private static final String REFUSED = "throws UnsupportedOperationException";

    private static final int NEW = 0;
    private static final int THREE = 1;
    private static final int FULL_BUCKET = 2;
    private static final int ALL_SENT = 3;
    private static final int TWELVE = 4;
    private static final int JOINED = 5;
    private static final int UNKEPT = 6;
    private static final int STATES = 7;

    private static final String[][] LOOKED = new String[STATES][4];

    private RefusalTest() {
    }

    public static void main(String[] args) {
        for (int state = 0; state < STATES; state++) {
            for (int look = 0; look < 4; look++) {
                LOOKED[state][look] = looked(state(state), look);
            }
        }
        canvas();
        settings();
        coding();
        codingInOrder();
        asking();
        askingInOrder();
        decoding();
        decodingInOrder();
        totals();
        severalRefused();
        Check.end("RefusalTest");
    }

    // ---- the states

    private static BlockCast state(int which) {
        BlockCast cast = new BlockCast();
        switch (which) {
            case THREE -> threePictures(cast);
            case FULL_BUCKET -> fullBucket(cast);
            case ALL_SENT -> allSent(cast);
            case TWELVE -> twelve(cast);
            case JOINED -> joined(cast);
            case UNKEPT -> unkept(cast);
            default -> cast.move(0, 0);
        }
        return cast;
    }

    /** Three pictures, two of them sent; the next one has two slices, but the settings now say one. */
    private static void threePictures(BlockCast cast) {
        cast.slope(10, 3, 7);
        cast.code('i', 0, 0);
        cast.move(1, 2);
        cast.setCoarseness(5);
        cast.code('p', 0, 0);
        cast.setSlices(2);
        cast.grain(7, 9);
        cast.code('b', 0, 1);
        cast.setSlices(1);
        cast.setTools(5);
        cast.send(1);
        cast.send(0);
    }

    /** A bucket that has no room for one more picture, and would leak 5; a broken picture is shown. */
    private static void fullBucket(BlockCast cast) {
        Made.paint(cast, 128);
        cast.setTools(0);
        cast.setBucket(Made.GREY_BITS, 5);
        cast.code('i', 0, 0);
        cast.send(1);
    }

    /** Four pictures, all sent, in a bucket that has room. */
    private static void allSent(BlockCast cast) {
        cast.setBucket(9000, 100);
        cast.grain(3, 40);
        for (int i = 0; i < 4; i++) {
            cast.move(i, 1);
            cast.code(i == 0 ? 'i' : 'p', 0, 0);
            cast.send(0);
        }
    }

    /** 12 pictures, four of them sent, and a bucket that is too small for another one. */
    private static void twelve(BlockCast cast) {
        for (int i = 0; i < 12; i++) {
            cast.slope(20 * i, 2, i);
            cast.setSlices(1 + i % 2);
            cast.code(i == 0 ? 'i' : i % 2 == 0 ? 'p' : 'b', 0, 0);
        }
        cast.setBucket(10, 3);
        for (int i = 0; i < 4; i++) {
            cast.send(i % 2);
        }
    }

    /** Five pictures; the decoder has joined at the next one. */
    private static void joined(BlockCast cast) {
        for (int i = 0; i < 5; i++) {
            cast.grain(i, 20);
            cast.code(i == 0 ? 'i' : 'p', 0, 0);
        }
        cast.send(0);
        cast.join(5);
    }

    /** Two pictures that are not kept, so that there is none to lean on. */
    private static void unkept(BlockCast cast) {
        cast.setKept(false);
        cast.grain(1, 30);
        cast.code('i', 0, 0);
        cast.code('i', 0, 0);
    }

    // ---- what other calls answer

    private static void add(StringBuilder text, Check.Call call) {
        text.append(Check.told(call)).append('\n');
    }

    private static String looked(BlockCast cast, int look) {
        StringBuilder text = new StringBuilder();
        switch (look) {
            case 0 -> lookAtCanvas(cast, text);
            case 1 -> lookAtPictures(cast, text);
            case 2 -> lookAtDecoder(cast, text);
            default -> goOn(cast, text);
        }
        return text.toString();
    }

    private static void lookAtCanvas(BlockCast cast, StringBuilder text) {
        text.append(Made.canvas(cast)).append('\n');
        add(text, cast::coarseness);
        add(text, cast::bucket);
        add(text, () -> cast.setTools(3));
        add(text, () -> cast.setSlices(2));
        add(text, () -> cast.setKept(true));
        add(text, () -> cast.setCoarseness(6));
        add(text, () -> cast.setBucket(700, 20));
    }

    private static void lookAtPictures(BlockCast cast, StringBuilder text) {
        add(text, cast::pictures);
        add(text, cast::kept);
        add(text, cast::commonest);
        add(text, cast::meanBits);
        for (int i = 0; i < 3; i++) {
            int place = i;
            add(text, () -> cast.keptAt(place));
        }
        for (int i = 0; i < 13; i++) {
            int picture = i;
            add(text, () -> cast.kindOf(picture));
            add(text, () -> cast.coarsenessOf(picture));
            add(text, () -> cast.errorOf(picture));
            add(text, () -> cast.heaviest(picture));
            for (int slice = 0; slice < 2; slice++) {
                int of = slice;
                add(text, () -> cast.bytes(picture, of));
                add(text, () -> cast.byteAt(picture, of, 4));
            }
            for (int pixel = 0; pixel < 16; pixel += 7) {
                int x = pixel;
                int y = pixel / 2 + 5;
                add(text, () -> cast.partAt(picture, x, y));
                add(text, () -> cast.modeAt(picture, x, y));
                add(text, () -> cast.vectorAt(picture, x, y, false));
                add(text, () -> cast.levelAt(picture, x, y));
                add(text, () -> cast.built(picture, x, y));
            }
        }
    }

    private static void lookAtDecoder(BlockCast cast, StringBuilder text) {
        add(text, cast::shown);
        add(text, cast::isClean);
        add(text, cast::drift);
        add(text, cast::cleanShare);
        for (int place = 0; place < 256; place++) {
            int x = place % 16;
            int y = place / 16;
            add(text, () -> cast.shownAt(x, y));
        }
        for (int i = 0; i < 12; i++) {
            add(text, () -> cast.send(0));
            add(text, cast::drift);
            add(text, cast::shown);
        }
        add(text, cast::cleanShare);
        add(text, () -> cast.join(0));
    }

    private static void goOn(BlockCast cast, StringBuilder text) {
        add(text, () -> cast.send(1));
        add(text, cast::drift);
        add(text, () -> cast.code('b', 0, 1));
        add(text, cast::coarseness);
        add(text, () -> cast.code('i', 0, 0));
        add(text, cast::bucket);
        add(text, () -> cast.fill(3, 3, 4, 4, 128));
        add(text, () -> cast.code('p', 0, 0));
        add(text, cast::coarseness);
        add(text, cast::bucket);
        add(text, cast::pictures);
        add(text, cast::kept);
        for (int i = 0; i < 4; i++) {
            add(text, () -> cast.send(0));
            add(text, cast::drift);
            add(text, () -> cast.shownAt(5, 9));
        }
        add(text, cast::cleanShare);
        add(text, cast::meanBits);
        add(text, () -> cast.join(1));
        add(text, () -> cast.send(1));
        add(text, () -> cast.send(0));
        add(text, cast::drift);
        add(text, cast::cleanShare);
    }

    // ---- refused calls

    interface Refused {
        Object answer(BlockCast cast);
    }

    /** Makes refused calls in a state, each of which throws the same, and looks at all that other calls answer. */
    private static void refuse(int state, String due, Refused... calls) {
        for (int look = 0; look < 4; look++) {
            BlockCast cast = state(state);
            for (int i = 0; i < calls.length; i++) {
                Refused call = calls[i];
                Check.due("in the state " + state + ", the call " + i, () -> call.answer(cast), due);
            }
            Check.same("in the state " + state + ", what others answer then", looked(cast, look), LOOKED[state][look]);
        }
    }

    private static void refuseAlways(String due, Refused... calls) {
        for (int state = 0; state < STATES; state++) {
            refuse(state, due, calls);
        }
    }

    private static void canvas() {
        Check.sentence("Exceptions", "A method that throws an exception changes nothing.");
        Check.sentence("Promise 2", "Throws `IllegalArgumentException` if the rectangle is not within the "
                + "canvas, or the value is out of range");
        refuseAlways(ILLEGAL, c -> c.fill(-1, 0, 2, 2, 9), c -> c.fill(0, -1, 2, 2, 9), c -> c.fill(0, 0, 17, 1, 9),
                c -> c.fill(0, 0, 1, 17, 9), c -> c.fill(3, 3, 0, 3, 9), c -> c.fill(3, 3, 3, 0, 9),
                c -> c.fill(15, 15, 2, 2, 9), c -> c.fill(3, 3, -3, -3, 9), c -> c.fill(1, 1, MOST, MOST, 9));
        refuseAlways(ILLEGAL, c -> c.fill(0, 0, 16, 16, 256), c -> c.fill(0, 0, 16, 16, -1),
                c -> c.fill(0, 0, 1, 1, LEAST));
        Check.sentence("Promise 3", "Throws `IllegalArgumentException` if the first value is out of range, or a "
                + "step is not from -99 to 99");
        refuseAlways(ILLEGAL, c -> c.slope(-1, 0, 0), c -> c.slope(256, 0, 0), c -> c.slope(0, 100, 0),
                c -> c.slope(0, -100, 0), c -> c.slope(0, 0, 100), c -> c.slope(0, 0, -100), c -> c.slope(0, LEAST, MOST));
        Check.sentence("Promise 4", "Throws `IllegalArgumentException` if the size is out of range");
        refuseAlways(ILLEGAL, c -> c.grain(5, 0), c -> c.grain(5, 100), c -> c.grain(5, -1), c -> c.grain(5, LEAST));
        Check.sentence("Promise 5", "Throws `IllegalArgumentException` if a number is not from -15 to 15");
        refuseAlways(ILLEGAL, c -> c.move(16, 1), c -> c.move(-16, 1), c -> c.move(1, 16), c -> c.move(1, -16),
                c -> c.move(MOST, LEAST));
        Check.sentence("Promise 6", "Throws `IndexOutOfBoundsException` if there is no such pixel");
        refuseAlways(OUTSIDE, c -> c.pixel(-1, 0), c -> c.pixel(0, -1), c -> c.pixel(16, 0), c -> c.pixel(0, 16));
    }

    private static void settings() {
        Check.sentence("Promise 7", "Throws `IllegalArgumentException` if it is out of range");
        refuseAlways(ILLEGAL, c -> c.setCoarseness(0), c -> c.setCoarseness(41), c -> c.setCoarseness(-1),
                c -> c.setCoarseness(MOST));
        Check.sentence("Promise 8", "Throws `IllegalArgumentException` if they are out of range");
        refuseAlways(ILLEGAL, c -> c.setTools(-1), c -> c.setTools(8), c -> c.setTools(LEAST), c -> c.setTools(MOST));
        Check.sentence("Promise 9", "Throws `IllegalArgumentException` if it is out of range");
        refuseAlways(ILLEGAL, c -> c.setSlices(0), c -> c.setSlices(3), c -> c.setSlices(-1), c -> c.setSlices(MOST));
        Check.sentence("Promise 11", "Throws `IllegalArgumentException` if a number is out of range");
        refuseAlways(ILLEGAL, c -> c.setBucket(-1, 0), c -> c.setBucket(100000, 0), c -> c.setBucket(5, -1),
                c -> c.setBucket(5, 100000), c -> c.setBucket(0, -1), c -> c.setBucket(0, 100000),
                c -> c.setBucket(LEAST, LEAST));
    }

    private static void coding() {
        Check.sentence("Promise 12", "Throws `IllegalArgumentException` if there is no such kind");
        refuseAlways(ILLEGAL, c -> c.code('x', 0, 0), c -> c.code('I', 0, 0), c -> c.code((char) 0, 0, 0),
                c -> c.code((char) 65535, 0, 0));
        Check.sentence("Promise 12", "Throws `IndexOutOfBoundsException` if there is no such kept picture, for "
                + "one that has a meaning");
        refuseAlways(OUTSIDE, c -> c.code('p', 3, 0), c -> c.code('p', -1, 0), c -> c.code('b', 3, 0),
                c -> c.code('b', -1, 0), c -> c.code('b', 0, 3), c -> c.code('b', 0, -1), c -> c.code('b', LEAST, MOST));
        for (int state : new int[] {NEW, UNKEPT}) {
            refuse(state, OUTSIDE, c -> c.code('p', 0, 0), c -> c.code('b', 0, 0));
        }
        refuse(FULL_BUCKET, OUTSIDE, c -> c.code('p', 1, 0), c -> c.code('b', 0, 1), c -> c.code('b', 1, 0));
        Check.sentence("Promise 12", "Throws `IllegalStateException` if there are 12 pictures");
        refuse(TWELVE, TOO_MANY, c -> c.code('i', 0, 0), c -> c.code('p', 0, 0), c -> c.code('b', 2, 1),
                c -> c.code('i', -1, 99));
        Check.sentence("Promise 12", "Throws `UnsupportedOperationException` if the bucket refuses it");
        refuse(FULL_BUCKET, REFUSED, c -> c.code('i', 0, 0), c -> c.code('p', 0, 0), c -> c.code('b', 0, 0),
                c -> c.code('i', -1, 99), c -> c.code('p', 0, 99), c -> c.code('i', 0, 0), c -> c.code('i', 0, 0));
        Check.sentence("Promise 15", "Throws `IndexOutOfBoundsException` if there is no such place");
        refuseAlways(OUTSIDE, c -> c.keptAt(-1), c -> c.keptAt(3), c -> c.keptAt(LEAST), c -> c.keptAt(MOST));
        refuse(NEW, OUTSIDE, c -> c.keptAt(0));
        refuse(UNKEPT, OUTSIDE, c -> c.keptAt(0));
        refuse(FULL_BUCKET, OUTSIDE, c -> c.keptAt(1));
        Check.sentence("Promise 17", "Throws `NoSuchElementException` if there is none");
        for (int state : new int[] {NEW, THREE, JOINED, UNKEPT}) {
            refuse(state, MISSING, c -> c.bucket());
        }
    }

    private static void codingInOrder() {
        Check.sentence("Exceptions", "If several conditions of a method apply, the exception that is listed "
                + "first is thrown.");
        // no such kind comes before no such kept picture, 12 pictures and a bucket that refuses
        refuse(NEW, ILLEGAL, c -> c.code('x', 0, 0), c -> c.code('x', 9, 9));
        refuse(TWELVE, ILLEGAL, c -> c.code('x', 0, 0), c -> c.code('x', 9, 9));
        refuse(FULL_BUCKET, ILLEGAL, c -> c.code('x', 0, 0), c -> c.code('x', 9, 9));
        // no such kept picture comes before 12 pictures and a bucket that refuses
        refuse(TWELVE, OUTSIDE, c -> c.code('p', 3, 0), c -> c.code('b', 0, 3), c -> c.code('b', 3, 0));
        refuse(FULL_BUCKET, OUTSIDE, c -> c.code('p', 1, 0), c -> c.code('b', 0, 1), c -> c.code('b', -1, 0));
        // 12 pictures come before a bucket that refuses
        refuse(TWELVE, TOO_MANY, c -> c.code('i', 0, 0), c -> c.code('p', 2, 0), c -> c.code('b', 2, 2));
    }

    private static void asking() {
        int[] counts = {0, 3, 1, 4, 12, 5, 2};
        for (int state = 0; state < STATES; state++) {
            int count = counts[state];
            for (int picture : new int[] {-1, count, LEAST, MOST}) {
                Check.sentence("Promise 18", "Throws `IndexOutOfBoundsException` if there is no such picture");
                refuse(state, OUTSIDE, c -> c.kindOf(picture), c -> c.coarsenessOf(picture), c -> c.bytes(picture, 0),
                        c -> c.byteAt(picture, 0, 0), c -> c.partAt(picture, 0, 0), c -> c.modeAt(picture, 0, 0),
                        c -> c.vectorAt(picture, 0, 0, false), c -> c.vectorAt(picture, 0, 0, true),
                        c -> c.levelAt(picture, 0, 0), c -> c.built(picture, 0, 0), c -> c.errorOf(picture),
                        c -> c.heaviest(picture));
            }
            if (count > 0) {
                Check.sentence("Promise 20", "Throws `IndexOutOfBoundsException` if there is no such picture or "
                        + "slice");
                refuse(state, OUTSIDE, c -> c.bytes(0, -1), c -> c.bytes(0, 1), c -> c.bytes(0, 2), c -> c.byteAt(0, 1, 0),
                        c -> c.byteAt(0, 0, -1), c -> c.byteAt(0, 0, c.bytes(0, 0)), c -> c.byteAt(0, -1, 0));
                Check.sentence("Promise 22", "Throws `IndexOutOfBoundsException` if there is no such picture or "
                        + "pixel");
                refuse(state, OUTSIDE, c -> c.partAt(0, -1, 0), c -> c.modeAt(0, 16, 0), c -> c.vectorAt(0, 0, 16, true),
                        c -> c.levelAt(0, 0, -1), c -> c.built(0, LEAST, MOST));
                Check.sentence("Promise 24", "Throws `NoSuchElementException` if the part uses no such vector");
                refuse(state, MISSING, c -> c.vectorAt(0, 0, 0, false), c -> c.vectorAt(0, 15, 15, true));
            }
        }
        Check.sentence("Promise 29", "Throws `NoSuchElementException` if there are no pictures");
        refuse(NEW, MISSING, c -> c.commonest(), c -> c.commonest());
    }

    private static void askingInOrder() {
        Check.sentence("Exceptions", "If several conditions of a method apply, the exception that is listed "
                + "first is thrown.");
        refuse(THREE, OUTSIDE, c -> c.vectorAt(0, 16, 0, false), c -> c.vectorAt(0, 0, -1, true),
                c -> c.vectorAt(3, 0, 0, false));
        refuse(NEW, OUTSIDE, c -> c.vectorAt(0, 0, 0, false), c -> c.vectorAt(0, 16, 16, true));
    }

    private static void decoding() {
        Check.sentence("Promise 30", "Throws `NoSuchElementException` if there is no next picture");
        for (int state : new int[] {NEW, ALL_SENT, JOINED}) {
            refuse(state, MISSING, c -> c.send(0), c -> c.send(1), c -> c.send(3));
        }
        Check.sentence("Promise 30", "Throws `IllegalArgumentException` if the picture has no such slices");
        refuse(THREE, ILLEGAL, c -> c.send(4), c -> c.send(5), c -> c.send(-1), c -> c.send(LEAST), c -> c.send(MOST));
        refuse(UNKEPT, ILLEGAL, c -> c.send(2), c -> c.send(3), c -> c.send(4), c -> c.send(-1), c -> c.send(LEAST));
        refuse(TWELVE, ILLEGAL, c -> c.send(2), c -> c.send(3), c -> c.send(-1), c -> c.send(MOST));
        Check.sentence("Promise 31", "Throws `IndexOutOfBoundsException` if there is no such picture");
        refuseAlways(OUTSIDE, c -> c.join(-1), c -> c.join(13), c -> c.join(LEAST), c -> c.join(MOST));
        refuse(NEW, OUTSIDE, c -> c.join(1));
        refuse(THREE, OUTSIDE, c -> c.join(4));
        refuse(FULL_BUCKET, OUTSIDE, c -> c.join(2));
        refuse(ALL_SENT, OUTSIDE, c -> c.join(5));
        refuse(JOINED, OUTSIDE, c -> c.join(6));
        refuse(UNKEPT, OUTSIDE, c -> c.join(3));
        for (int state : new int[] {NEW, JOINED, UNKEPT}) {
            Check.sentence("Promise 32", "Throws `NoSuchElementException` if none is");
            refuse(state, MISSING, c -> c.shown(), c -> c.shown());
            Check.sentence("Promise 33", "Throws `NoSuchElementException` if no picture is shown");
            refuse(state, MISSING, c -> c.shownAt(0, 0), c -> c.shownAt(15, 15));
            Check.sentence("Promise 34", "Throws `NoSuchElementException` if no picture is shown");
            refuse(state, MISSING, c -> c.isClean(), c -> c.isClean());
            Check.sentence("Promise 35", "Throws `NoSuchElementException` if no picture is shown");
            refuse(state, MISSING, c -> c.drift(), c -> c.drift());
        }
        Check.sentence("Promise 33", "Throws `IndexOutOfBoundsException` if there is no such pixel");
        refuseAlways(OUTSIDE, c -> c.shownAt(-1, 0), c -> c.shownAt(0, -1), c -> c.shownAt(16, 0), c -> c.shownAt(0, 16));
    }

    private static void decodingInOrder() {
        Check.sentence("Exceptions", "If several conditions of a method apply, the exception that is listed "
                + "first is thrown.");
        for (int state : new int[] {NEW, ALL_SENT, JOINED}) {
            refuse(state, MISSING, c -> c.send(4), c -> c.send(-1), c -> c.send(LEAST));
        }
        for (int state : new int[] {NEW, JOINED, UNKEPT}) {
            refuse(state, OUTSIDE, c -> c.shownAt(-1, 0), c -> c.shownAt(16, 16));
        }
    }

    private static void totals() {
        Check.sentence("Promise 36", "Throws `ArithmeticException` if there are no pictures");
        refuse(NEW, ARITHMETIC, c -> c.meanBits(), c -> c.meanBits());
        Check.sentence("Promise 37", "Throws `ArithmeticException` if none was sent");
        refuse(NEW, ARITHMETIC, c -> c.cleanShare(), c -> c.cleanShare());
        refuse(UNKEPT, ARITHMETIC, c -> c.cleanShare(), c -> c.cleanShare());
    }

    private static void severalRefused() {
        Check.sentence("Exceptions", "A method that throws an exception changes nothing.");
        // a picture that a bucket refuses is quite another one than those that come before and after it
        for (int i = 0; i < 12; i++) {
            int seed = i;
            BlockCast one = run(seed, false);
            BlockCast other = run(seed, true);
            for (int look = 1; look < 3; look++) {
                Check.same("the run " + seed, looked(one, look), looked(other, look));
            }
        }
    }

    private static BlockCast run(int seed, boolean isRefused) {
        BlockCast cast = new BlockCast();
        cast.grain(seed, 50);
        cast.code('i', 0, 0);
        for (int i = 0; i < 4; i++) {
            cast.move(1, i);
            if (isRefused) {
                refuseOther(cast, i);
            }
            cast.setBucket(0, 0);
            cast.setTools((seed + i) % 8);
            cast.setSlices(1 + (seed + i) % 2);
            cast.setCoarseness(1 + (seed + 7 * i) % 40);
            cast.code(i % 2 == 0 ? 'b' : 'p', 0, 0);
            cast.send(0);
        }
        return cast;
    }

    private static void refuseOther(BlockCast cast, int i) {
        cast.setBucket(1, 1);
        cast.setTools(7 - i);
        cast.setSlices(2 - i % 2);
        cast.setKept(false);
        cast.setCoarseness(1);
        for (char kind : new char[] {'i', 'p', 'b'}) {
            Check.due("refused", () -> cast.code(kind, 0, 0), REFUSED);
        }
        cast.setKept(true);
    }
}
