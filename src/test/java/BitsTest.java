/** The sentences on the arithmetic coder and on what is coded: slices whose bits are listed by hand. */
final class BitsTest {
    private BitsTest() {
    }

    public static void main(String[] args) {
        nothingToTell();
        chancesLearn();
        numbers();
        largestNumber();
        leastPlaces();
        lastPlace();
        zeroLevels();
        splits();
        modesOfTheBorder();
        firstVectors();
        vectorsOfBoth();
        contextsPerSlice();
        widthAtItsLimit();
        carriedOver();
        bytesAndBits();
        Check.end("BitsTest");
    }

    private static void slice(String what, BlockCast cast, int picture, int slice, Bits bits) {
        Check.due(what, () -> Made.bytes(cast, picture, slice), bits.bytes());
    }

    /** What a block says whose mode is 0 and which has no levels, in a picture 'i' without splits. */
    private static Bits greyBlocks(Bits bits, int count) {
        for (int i = 0; i < count; i++) {
            bits.in(4, 0, 5, 0).times(4, 7, 0);
        }
        return bits;
    }

    private static void nothingToTell() {
        Check.sentence("What is coded", "For each block: if blocks may be split, whether it is split, in the "
                + "context 0.");
        Check.sentence("What is coded", "For each part: if the picture is not 'i', whether the mode is 4 or "
                + "more, in 1.");
        BlockCast cast = Made.flat(128, 8, 0);
        cast.code('i', 0, 0);
        slice("'i'", cast, 0, 0, greyBlocks(new Bits(), 4));
        cast.code('p', 0, 0);
        slice("'p'", cast, 1, 0, new Bits().times(4, 1, 0, 4, 0, 5, 0, 7, 0, 7, 0, 7, 0, 7, 0));
        cast.code('b', 0, 0);
        slice("'b'", cast, 2, 0, new Bits().times(4, 1, 0, 4, 0, 5, 0, 7, 0, 7, 0, 7, 0, 7, 0));
        cast.setTools(1);
        cast.code('i', 0, 0);
        slice("'i' with splits", cast, 3, 0, new Bits().times(4, 0, 0, 4, 0, 5, 0, 7, 0, 7, 0, 7, 0, 7, 0));
        cast.setSlices(2);
        cast.code('p', 0, 0);
        Bits half = new Bits().times(2, 0, 0, 1, 0, 4, 0, 5, 0, 7, 0, 7, 0, 7, 0, 7, 0);
        slice("'p' with splits, upper", cast, 4, 0, half);
        slice("'p' with splits, lower", cast, 4, 1, half);
        cast.setTools(6);
        cast.code('i', 0, 0);
        slice("the other tools tell nothing", cast, 5, 1, greyBlocks(new Bits(), 2));
    }

    private static void chancesLearn() {
        Check.sentence("The arithmetic coder", "for 0, R becomes B, and c gets 2048 less c, divided by 32, "
                + "rounded down, more; for 1, L gets B more, R becomes R less B, and c gets c divided by 32, "
                + "rounded down, less");
        // all parts are 4 times 4 and guessed from the kept picture: the bits 1 in 0 and 1, and 0 in 8 and 7
        BlockCast cast = Made.flat(0, 1, 1);
        for (int i = 0; i < 16; i++) {
            cast.fill(i % 4 * 4, i / 4 * 4, 4, 4, 20 + 79 * i % 223);
        }
        cast.code('i', 0, 0);
        cast.code('p', 0, 0);
        Bits bits = new Bits();
        for (int i = 0; i < 16; i++) {
            if (i % 4 == 0) {
                bits.in(0, 1);
            }
            bits.in(1, 1, 8, 0, 8, 0, 7, 0);
        }
        slice("16 parts like the kept ones", cast, 1, 0, bits);
        Check.sentence("The arithmetic coder", "A context has a chance, 1024 at first in each slice.");
        cast.setSlices(2);
        cast.code('p', 0, 0);
        Bits half = new Bits();
        for (int i = 0; i < 8; i++) {
            if (i % 4 == 0) {
                half.in(0, 1);
            }
            half.in(1, 1, 8, 0, 8, 0, 7, 0);
        }
        slice("the upper 8", cast, 2, 0, half);
        slice("the lower 8", cast, 2, 1, half);
    }

    /** A block that is flat, d from 128, at the coarseness 4: its four levels are d; all others say just their modes. */
    private static BlockCast lifted(int d) {
        BlockCast cast = Made.flat(128 + d, 4, 0);
        cast.code('i', 0, 0);
        return cast;
    }

    private static void numberOf(int d, java.util.function.Consumer<Bits> number) {
        Bits bits = new Bits().in(4, 0, 5, 0);
        for (int i = 0; i < 4; i++) {
            bits.in(7, 1, 33, 0, 34, 0, 36, 0, 40, 0).plain(d < 0 ? "1" : "0");
            number.accept(bits);
        }
        bits.in(4, 1, 6, 0).times(4, 7, 0);
        bits.in(4, 0, 5, 1).times(4, 7, 0);
        bits.in(4, 0, 5, 0).times(4, 7, 0);
        slice("the level " + d, lifted(d), 0, 0, bits);
    }

    private static void numbers() {
        Check.sentence("What is coded", "A number n in a context k is coded so: for j from 0 to 11, whether n is "
                + "greater than j, in k plus j, or k plus 5 if j is greater than 5, up to the first one for "
                + "which it is not");
        numberOf(2, bits -> bits.in(64, 1, 65, 0));
        numberOf(5, bits -> bits.in(64, 1, 65, 1, 66, 1, 67, 1, 68, 0));
        numberOf(6, bits -> bits.in(64, 1, 65, 1, 66, 1, 67, 1, 68, 1, 69, 0));
        numberOf(7, bits -> bits.in(64, 1, 65, 1, 66, 1, 67, 1, 68, 1, 69, 1, 69, 0));
        numberOf(-8, bits -> bits.in(64, 1, 65, 1, 66, 1, 67, 1, 68, 1, 69, 1, 69, 1, 69, 0));
        numberOf(12, bits -> bits.in(64, 1, 65, 1, 66, 1, 67, 1, 68, 1, 69, 1, 69, 1, 69, 1, 69, 1, 69, 1, 69, 1, 69, 0));
        Check.sentence("What is coded", "if it was so for all, with m as n less 11 and h as the number of times "
                + "that m can be halved, rounded down, before it is 1: h plain bits 1, a plain 0, and the lowest "
                + "h bits of m, the greatest first, plain");
        numberOf(13, bits -> bits.in(64, 1, 65, 1, 66, 1, 67, 1, 68, 1, 69, 1, 69, 1, 69, 1, 69, 1, 69, 1, 69, 1, 69, 1)
                .plain("0"));
        numberOf(14, bits -> bits.large(64, "100"));
        numberOf(15, bits -> bits.large(64, "101"));
        numberOf(16, bits -> bits.large(64, "11000"));
        numberOf(-17, bits -> bits.large(64, "11001"));
        numberOf(19, bits -> bits.large(64, "11011"));
        numberOf(20, bits -> bits.large(64, "1110000"));
        numberOf(127, bits -> bits.large(64, "1111110110011"));
        numberOf(-128, bits -> bits.large(64, "1111110110100"));
    }

    private static void largestNumber() {
        Check.sentence("What is coded", "the lowest h bits of m, the greatest first, plain");
        // a square of 0 that is guessed as 255 has the level -1020 at the coarseness 1: n is 1019, m is 1008, h is 9
        BlockCast cast = Made.flat(255, 1, 0);
        cast.code('i', 0, 0);
        cast.fill(8, 8, 4, 4, 0);
        cast.setSlices(2);
        cast.code('p', 0, 0);
        Bits bits = new Bits().times(2, 1, 1, 8, 0, 8, 0, 7, 0, 7, 0, 7, 0, 7, 0);
        slice("the upper slice", cast, 1, 0, bits);
        // the block 2 leans on the kept picture, and so does the block 3
        Bits lower = new Bits().in(1, 1, 8, 0, 8, 0).times(4, 7, 0);
        lower.in(1, 1, 8, 0, 8, 0, 7, 1, 33, 0, 34, 0, 36, 0, 40, 0).plain("1").large(64, "1111111110" + "111110000");
        lower.times(3, 7, 0);
        slice("the lower slice", cast, 1, 1, lower);
    }

    private static void leastPlaces() {
        Check.sentence("What is coded", "whether it has a level that is not 0, in 7; if so, the place in the row "
                + "of the last one that is not 0, as four bits, the greatest first, in 32 plus t, where t is 1 "
                + "at first, and 2 times t plus the bit behind each");
        Check.sentence("What is coded", "The row goes through the places 0, 1, 4, 8, 5, 2, 3, 6, 9, 12, 13, 10, "
                + "7, 11, 14, 15, each 4 times v plus u.");
        int[] row = {0, 1, 4, 8, 5, 2, 3, 6, 9, 12, 13, 10, 7, 11, 14, 15};
        String[] signs = {"++++", "++--", "+--+", "+-+-"};
        for (int place = 0; place < 16; place++) {
            int u = row[place] % 4;
            int v = row[place] / 4;
            BlockCast cast = Made.flat(128, 4, 0);
            for (int i = 0; i < 16; i++) {
                boolean isMore = signs[u].charAt(i % 4) == signs[v].charAt(i / 4);
                cast.fill(i % 4, i / 4, 1, 1, isMore ? 130 : 126);
            }
            cast.code('i', 0, 0);
            int first = place / 8;
            int second = place / 4 % 2;
            int third = place / 2 % 2;
            Bits bits = new Bits().in(4, 0, 5, 0, 7, 1);
            bits.in(33, first, 34 + first, second, 36 + 2 * first + second, third,
                    40 + 4 * first + 2 * second + third, place % 2);
            bits.plain("0").in(64, 1, 65, 0);
            for (int i = place - 1; i >= 0; i--) {
                bits.in(48 + i, 0);
            }
            bits.times(3, 7, 0);
            slice("the place " + place, cast, 0, 0, greyBlocks(bits, 3));
        }
    }

    private static void lastPlace() {
        Check.sentence("What is coded", "and then, from this place down to 0, for each but this, whether it is "
                + "not 0, in 48 plus the place, and if it is not 0, whether it is less than 0, plain, and its "
                + "number without sign less 1, in 64");
        // the pixel 1, 0 is 3 more: all levels are 1 where u is 0 or 1, and -1 where it is 2 or 3
        BlockCast cast = Made.flat(128, 1, 0);
        cast.fill(1, 0, 1, 1, 131);
        cast.code('i', 0, 0);
        String less = "0000011100011111";
        Bits bits = new Bits().in(4, 0, 5, 0, 7, 1, 33, 1, 35, 1, 39, 1, 47, 1);
        for (int place = 15; place >= 0; place--) {
            if (place < 15) {
                bits.in(48 + place, 1);
            }
            bits.plain(less.substring(place, place + 1)).in(64, 0);
        }
        bits.times(3, 7, 0);
        slice("16 levels", cast, 0, 0, greyBlocks(bits, 3));
    }

    private static void zeroLevels() {
        Check.sentence("What is coded", "for each but this, whether it is not 0, in 48 plus the place");
        // two rows of H, 5 times the one across and 2 times the one with the place 3, 0: the places 1 and 6 of the row
        BlockCast cast = Made.flat(128, 4, 0);
        int[] columns = {7, 3, -3, -7};
        for (int x = 0; x < 4; x++) {
            cast.fill(x, 0, 1, 4, 128 + columns[x]);
        }
        cast.code('i', 0, 0);
        Bits bits = new Bits().in(4, 0, 5, 0, 7, 1, 33, 0, 34, 1, 37, 1, 43, 0);
        bits.plain("0").in(64, 1, 65, 0);
        bits.in(53, 0, 52, 0, 51, 0, 50, 0, 49, 1).plain("0").small(64, 4).in(48, 0);
        bits.times(3, 7, 0);
        slice("two levels", cast, 0, 0, greyBlocks(bits, 3));
    }

    private static void splits() {
        Check.sentence("What is coded", "whether it is split, in the context 0");
        // the parts of the block 0 are 60 60 60 160; those of the block 1 go on to the right
        BlockCast cast = Made.flat(60, 4, 1);
        cast.setSlices(2);
        cast.fill(4, 4, 12, 4, 160);
        cast.code('i', 0, 0);
        Bits bits = new Bits().in(0, 1);
        bits.in(4, 0, 5, 0, 7, 1, 33, 0, 34, 0, 36, 0, 40, 0).plain("1").large(64, "111110" + "11000");
        bits.in(4, 1, 6, 0, 7, 0);
        bits.in(4, 0, 5, 1, 7, 0);
        bits.in(4, 0, 5, 0, 7, 1, 33, 0, 34, 0, 36, 0, 40, 0).plain("0").large(64, "1111110" + "011000");
        bits.in(0, 1).times(4, 4, 1, 6, 0, 7, 0);
        slice("two split blocks", cast, 0, 0, bits);
        Bits lower = new Bits().in(0, 0, 4, 0, 5, 0);
        for (int i = 0; i < 4; i++) {
            lower.in(7, 1, 33, 0, 34, 0, 36, 0, 40, 0).plain("1").large(64, "111110" + "11000");
        }
        lower.in(0, 0, 4, 1, 6, 0).times(4, 7, 0);
        slice("two whole ones", cast, 0, 1, lower);
    }

    private static void modesOfTheBorder() {
        Check.sentence("What is coded", "If the mode is less than 4: whether it is 2 or 3, in 4; and whether it "
                + "is odd, in 5 for the modes 0 and 1, in 6 for 2 and 3.");
        // 130 136 above 134 140: the mode 0 for the block 0, 2 is best for none, 3 for the last one
        BlockCast cast = Made.flat(0, 4, 0);
        Made.quarters(cast, 138, 138, 158, 158);
        cast.code('i', 0, 0);
        Bits bits = new Bits().in(4, 0, 5, 0);
        for (int i = 0; i < 4; i++) {
            bits.in(7, 1, 33, 0, 34, 0, 36, 0, 40, 0).plain("0").small(64, 9);
        }
        bits.in(4, 1, 6, 0).times(4, 7, 0);
        // above 138, at the left 128: the mode 1 is nearest, with 20 left
        bits.in(4, 0, 5, 1);
        for (int i = 0; i < 4; i++) {
            bits.in(7, 1, 33, 0, 34, 0, 36, 0, 40, 0).plain("0").large(64, "1110000");
        }
        bits.in(4, 1, 6, 0).times(4, 7, 0);
        slice("the modes 0 2 1 2", cast, 0, 0, bits);
        Made.quarters(cast, 138, 148, 158, 168);
        cast.code('i', 0, 0);
        Check.due("the modes", () -> "" + cast.modeAt(1, 0, 0) + cast.modeAt(1, 8, 0) + cast.modeAt(1, 0, 8)
                + cast.modeAt(1, 8, 8), "0213");
        Bits other = new Bits().in(4, 0, 5, 0);
        for (int i = 0; i < 4; i++) {
            other.in(7, 1, 33, 0, 34, 0, 36, 0, 40, 0).plain("0").small(64, 9);
        }
        other.in(4, 1, 6, 0);
        for (int i = 0; i < 4; i++) {
            other.in(7, 1, 33, 0, 34, 0, 36, 0, 40, 0).plain("0").small(64, 9);
        }
        other.in(4, 0, 5, 1);
        for (int i = 0; i < 4; i++) {
            other.in(7, 1, 33, 0, 34, 0, 36, 0, 40, 0).plain("0").large(64, "1110000");
        }
        other.in(4, 1, 6, 1).times(4, 7, 0);
        slice("the modes 0 2 1 3", cast, 1, 0, other);
    }

    private static int square(int i) {
        return 20 + 79 * i % 223;
    }

    private static int squareAt(int x, int y) {
        return square(Math.min(15, y) / 4 * 4 + Math.min(15, x) / 4);
    }

    private static void paintSquares(BlockCast cast, int more) {
        for (int i = 0; i < 16; i++) {
            cast.fill(i % 4 * 4, i / 4 * 4, 4, 4, square(i) + more);
        }
    }

    /** Paints a block with the squares as they are so many pixels to the right and below. */
    private static void paintMoved(BlockCast cast, int left, int top, int right, int down, int more) {
        for (int y = top; y < top + 8; y++) {
            for (int x = left; x < left + 8; x++) {
                cast.fill(x, y, 1, 1, squareAt(x + right, y + down) + more);
            }
        }
    }

    private static void firstVectors() {
        Check.sentence("What is coded", "then the vectors that it uses, that of the first picture first, the "
                + "first number, then the second one, each less that of the vector for the same picture which "
                + "was coded last in this slice, or 0: as a number without sign in 8, and if it is not 0, "
                + "whether it is less than 0, plain");
        BlockCast cast = Made.flat(0, 4, 0);
        paintSquares(cast, 0);
        cast.code('i', 0, 0);
        Check.due("the kept one is exact", () -> cast.errorOf(0), 0);
        cast.setKept(false);
        Made.paint(cast, 128);
        paintMoved(cast, 8, 0, 2, 1, 0);
        paintMoved(cast, 0, 8, 1, -2, 0);
        paintMoved(cast, 8, 8, -1, -2, 0);
        cast.code('p', 0, 0);
        Bits grey = new Bits().in(1, 0, 4, 0, 5, 0).times(4, 7, 0);
        grey.in(1, 1, 8, 1, 9, 1, 10, 1, 11, 1, 12, 0).plain("0").in(8, 1, 9, 1, 10, 0).plain("0").times(4, 7, 0);
        // 2, -4 less 4, 2 is -2, -6, and -2, -4 less 2, -4 is -4, 0
        grey.in(1, 1, 8, 1, 9, 1, 10, 0).plain("1")
                .in(8, 1, 9, 1, 10, 1, 11, 1, 12, 1, 13, 1, 13, 0).plain("1").times(4, 7, 0);
        grey.in(1, 1, 8, 1, 9, 1, 10, 1, 11, 1, 12, 0).plain("1").in(8, 0).times(4, 7, 0);
        slice("three vectors", cast, 1, 0, grey);
        cast.setSlices(2);
        cast.code('p', 0, 0);
        Check.sentence("What is coded", "which was coded last in this slice, or 0");
        Bits lower = new Bits().in(1, 1, 8, 1, 9, 1, 10, 0).plain("0")
                .in(8, 1, 9, 1, 10, 1, 11, 1, 12, 0).plain("1").times(4, 7, 0);
        lower.in(1, 1, 8, 1, 9, 1, 10, 1, 11, 1, 12, 0).plain("1").in(8, 0).times(4, 7, 0);
        slice("two in the lower slice", cast, 2, 1, lower);
        Made.paint(cast, 128);
        cast.setSlices(1);
        paintMoved(cast, 8, 0, 4, 4, 0);
        paintMoved(cast, 8, 8, -4, -4, 0);
        cast.code('p', 0, 0);
        Bits far = new Bits().in(1, 0, 4, 0, 5, 0).times(4, 7, 0);
        far.in(1, 1).small(8, 8).plain("0").small(8, 8).plain("0").times(4, 7, 0);
        far.in(1, 0, 4, 0, 5, 0).times(4, 7, 0);
        far.in(1, 1).large(8, "11001").plain("1").large(8, "11001").plain("1").times(4, 7, 0);
        slice("16 less, the farthest", cast, 3, 0, far);
    }

    private static void vectorsOfBoth() {
        Check.sentence("What is coded", "If so, for 'b', whether it is 6, in 2, and if not, whether it is 5, in 3");
        BlockCast cast = Made.flat(0, 4, 0);
        paintSquares(cast, 0);
        cast.code('i', 0, 0);
        paintSquares(cast, 10);
        cast.code('i', 0, 0);
        Check.due("both are exact", () -> cast.errorOf(0) + cast.errorOf(1), 0);
        Made.paint(cast, 128);
        paintMoved(cast, 8, 0, 2, 1, 10);
        paintMoved(cast, 0, 8, 1, -2, 0);
        paintMoved(cast, 8, 8, -1, -2, 5);
        cast.code('b', 1, 0);
        Check.due("the modes", () -> "" + cast.modeAt(2, 0, 0) + cast.modeAt(2, 8, 0) + cast.modeAt(2, 0, 8)
                + cast.modeAt(2, 8, 8), "0546");
        Bits bits = new Bits().in(1, 0, 4, 0, 5, 0).times(4, 7, 0);
        bits.in(1, 1, 2, 0, 3, 1).small(8, 4).plain("0").small(8, 2).plain("0").times(4, 7, 0);
        bits.in(1, 1, 2, 0, 3, 0).small(8, 2).plain("0").small(8, 4).plain("1").times(4, 7, 0);
        // the first one's is -2, -4 less 2, -4, the second one's -2, -4 less 4, 2
        bits.in(1, 1, 2, 1).small(8, 4).plain("1").small(8, 0)
                .small(8, 6).plain("1").small(8, 6).plain("1").times(4, 7, 0);
        slice("one of each", cast, 2, 0, bits);
    }

    private static void contextsPerSlice() {
        Check.sentence("The arithmetic coder", "A slice is one row of bits, each coded in a context, or plain.");
        Check.sentence("The arithmetic coder", "It has a number L, 0 at first, a width R, 4294967295 at first, "
                + "and a length, 0 at first.");
        BlockCast cast = Made.flat(50, 4, 0);
        cast.setSlices(2);
        cast.code('i', 0, 0);
        cast.code('i', 0, 0);
        Check.due("both slices begin anew", () -> Made.bytes(cast, 0, 1), Made.bytes(cast, 0, 0));
        Check.due("and so does the next picture", () -> Made.bytes(cast, 1, 0), Made.bytes(cast, 0, 0));
        Check.sentence("The arithmetic coder", "A bit is coded in a context with the chance c, with B as R "
                + "divided by 2048, rounded down, times c");
        Check.sentence("The arithmetic coder", "A plain bit: R is halved, rounded down; for 1, L gets R more.");
        // 78 less than 128: the levels are -78, n is 77, m is 66, h is 6
        Bits bits = new Bits().in(4, 0, 5, 0);
        for (int i = 0; i < 4; i++) {
            bits.in(7, 1, 33, 0, 34, 0, 36, 0, 40, 0).plain("1").large(64, "1111110" + "000010");
        }
        bits.in(4, 1, 6, 0).times(4, 7, 0);
        slice("as they do by hand", cast, 0, 0, bits);
    }

    private static void widthAtItsLimit() {
        Check.sentence("The arithmetic coder", "As long as R is less than 16777216 behind a bit, L and R are "
                + "multiplied by 256, and the length grows by 1.");
        // behind the last bit of a slice, R is just 16777216; these grains were searched for
        int[][] found = {{400554812, 62, 26, 45, 48}, {400753098, 38, 32, 29, 30}, {401094902, 32, 32, 24, 26}};
        for (int[] f : found) {
            BlockCast cast = Made.flat(128, f[2], 0);
            cast.setSlices(2);
            cast.grain(f[0], f[1]);
            Check.due("bits", () -> cast.code('i', 0, 0), 8 * (f[3] + f[4]));
            Check.due("bytes of the upper slice", () -> cast.bytes(0, 0), f[3]);
            Check.due("bytes of the lower slice", () -> cast.bytes(0, 1), f[4]);
        }
    }

    private static void carriedOver() {
        Check.sentence("The arithmetic coder", "for 1, L gets B more");
        // in these grains, which were searched for, a byte that is 255 becomes 0 by what L gets, and the one before it gets
        // 1: in the first ones two or three such bytes behind one another, in the last ones the second byte of all
        int[][] found = {{0, 4, 128, 334, 60}, {0, 4, 128, 739, 60}, {0, 4, 128, 2969, 60}, {0, 4, 128, 286463, 60},
            {5, 29, 161, 11, 22}, {5, 36, 47, 58, 27}, {6, 20, 14, 397, 16}};
        for (int[] f : found) {
            BlockCast cast = Made.flat(f[2], f[1], f[0]);
            cast.grain(f[3], f[4]);
            cast.code('i', 0, 0);
            Model model = new Model();
            model.setTools(f[0]);
            model.setCoarseness(f[1]);
            model.fill(0, 0, 16, 16, f[2]);
            model.grain(f[3], f[4]);
            model.code('i', 0, 0);
            StringBuilder want = new StringBuilder();
            for (int i = 0; i < model.bytes(0, 0); i++) {
                want.append(model.byteAt(0, 0, i)).append(' ');
            }
            Check.due("the grain " + f[3], () -> Made.bytes(cast, 0, 0), want);
        }
    }

    private static void bytesAndBits() {
        Check.sentence("The arithmetic coder", "The bytes of a slice are those of L in the end, the greatest one "
                + "first, as many as the length plus 4.");
        BlockCast cast = Made.flat(128, 8, 0);
        cast.code('i', 0, 0);
        Check.due("all bits are 0, so is L", () -> Made.bytes(cast, 0, 0), "0 0 0 0 0 0 ");
        cast.fill(0, 0, 8, 8, 132);
        cast.code('i', 0, 0);
        // 0 and 0 for the mode, 1 for the levels, each with even chances: L is an eighth of all, less what is rounded
        Check.due("the greatest byte is the first", () -> cast.byteAt(1, 0, 0) >= 31 && cast.byteAt(1, 0, 0) < 64, true);
        int bits = 8 * cast.bytes(1, 0);
        Check.sentence("The arithmetic coder", "The bits of a picture are 8 times the bytes of its slices.");
        Check.due("by the mean", () -> cast.meanBits() * 2 - Made.GREY_BITS, (double) bits);
    }
}
