/** Objects and canvases that several tests begin with. */
final class Made {
    static final int LEAST = Integer.MIN_VALUE;
    static final int MOST = Integer.MAX_VALUE;
    /** The bits of a picture that is 128 everywhere, coded as 'i' without tools in one slice: six bytes. */
    static final int GREY_BITS = 48;

    private Made() {
    }

    /** A coder with coarseness and tools, whose canvas has one value. */
    static BlockCast flat(int value, int coarseness, int tools) {
        BlockCast cast = new BlockCast();
        cast.setCoarseness(coarseness);
        cast.setTools(tools);
        paint(cast, value);
        return cast;
    }

    static void paint(BlockCast cast, int value) {
        cast.fill(0, 0, 16, 16, value);
    }

    /** Paints the four blocks, in their order. */
    static void quarters(BlockCast cast, int a, int b, int c, int d) {
        cast.fill(0, 0, 8, 8, a);
        cast.fill(8, 0, 8, 8, b);
        cast.fill(0, 8, 8, 8, c);
        cast.fill(8, 8, 8, 8, d);
    }

    static int[][] wrongPixels() {
        return new int[][] {{-1, 0}, {0, -1}, {16, 0}, {0, 16}, {-1, 15}, {15, -1}, {16, 15}, {15, 16}, {LEAST, 0},
            {0, LEAST}, {MOST, 0}, {0, MOST}, {MOST, LEAST}};
    }

    /** All pixels of the canvas: 256 calls. */
    static String canvas(BlockCast cast) {
        StringBuilder text = new StringBuilder();
        for (int y = 0; y < 16; y++) {
            for (int x = 0; x < 16; x++) {
                text.append(cast.pixel(x, y)).append(' ');
            }
        }
        return text.toString();
    }

    /** All bytes of a slice. */
    static String bytes(BlockCast cast, int picture, int slice) {
        StringBuilder text = new StringBuilder();
        int count = cast.bytes(picture, slice);
        for (int i = 0; i < count; i++) {
            text.append(cast.byteAt(picture, slice, i)).append(' ');
        }
        return text.toString();
    }
}
