import java.util.Random;

/** Plays long runs of mixed calls, with wrong arguments among them, on a BlockCast and on the Model of the document. */
final class ModelTest {
    private static final int RUNS = 250;
    private static final int CALLS = 110;

    private final Random random;
    private final BlockCast cast = new BlockCast();
    private final Model model = new Model();
    private final StringBuilder run = new StringBuilder();

    private ModelTest(long seed) {
        random = new Random(seed);
        run.append("run ").append(seed).append(":");
    }

    public static void main(String[] args) {
        for (int seed = 0; seed < RUNS; seed++) {
            ModelTest test = new ModelTest(seed);
            for (int i = 0; i < CALLS; i++) {
                test.step();
            }
            test.lookAtAll();
        }
        Check.end("ModelTest");
    }

    private void compare(String call, Check.Call one, Check.Call other) {
        run.append(' ').append(call);
        Check.same(run.toString(), Check.told(one), Check.told(other));
    }

    /** A number from low to high, a few beyond them among them, and now and then one far out. */
    private int about(int low, int high) {
        int what = random.nextInt(60);
        if (what == 0) {
            return Integer.MIN_VALUE;
        }
        if (what == 1) {
            return Integer.MAX_VALUE;
        }
        if (what == 2) {
            return low - 1;
        }
        if (what == 3) {
            return high + 1;
        }
        return low + random.nextInt(high - low + 1);
    }

    private void step() {
        int what = random.nextInt(100);
        if (what < 35) {
            paint();
        } else if (what < 50) {
            setting();
        } else if (what < 70) {
            code();
        } else if (what < 88) {
            decode();
        } else {
            ask();
        }
    }

    private void paint() {
        switch (random.nextInt(6)) {
            case 0 -> {
                int x = about(0, 15);
                int y = about(0, 15);
                int width = about(1, Math.max(1, Math.min(16, 16 - Math.max(0, Math.min(15, x)))));
                int height = about(1, Math.max(1, Math.min(16, 16 - Math.max(0, Math.min(15, y)))));
                int value = about(0, 255);
                compare("fill(" + x + ", " + y + ", " + width + ", " + height + ", " + value + ")",
                        () -> cast.fill(x, y, width, height, value), () -> model.fill(x, y, width, height, value));
            }
            case 1 -> {
                int first = about(0, 255);
                int limit = random.nextInt(3) == 0 ? 99 : 9;
                int stepX = about(-limit, limit);
                int stepY = about(-limit, limit);
                compare("slope(" + first + ", " + stepX + ", " + stepY + ")",
                        () -> cast.slope(first, stepX, stepY), () -> model.slope(first, stepX, stepY));
            }
            case 2, 3 -> {
                int seed = random.nextInt();
                int size = about(1, random.nextInt(3) == 0 ? 99 : 9);
                compare("grain(" + seed + ", " + size + ")",
                        () -> cast.grain(seed, size), () -> model.grain(seed, size));
            }
            default -> {
                int limit = random.nextInt(4) == 0 ? 15 : 4;
                int right = about(-limit, limit);
                int down = about(-limit, limit);
                compare("move(" + right + ", " + down + ")",
                        () -> cast.move(right, down), () -> model.move(right, down));
            }
        }
    }

    private void setting() {
        switch (random.nextInt(6)) {
            case 0, 1 -> {
                int value = about(1, random.nextInt(2) == 0 ? 40 : 4);
                compare("setCoarseness(" + value + ")",
                        () -> cast.setCoarseness(value), () -> model.setCoarseness(value));
            }
            case 2 -> {
                int value = about(0, 7);
                compare("setTools(" + value + ")", () -> cast.setTools(value), () -> model.setTools(value));
            }
            case 3 -> {
                int value = about(1, 2);
                compare("setSlices(" + value + ")", () -> cast.setSlices(value), () -> model.setSlices(value));
            }
            case 4 -> {
                boolean value = random.nextInt(3) > 0;
                compare("setKept(" + value + ")", () -> cast.setKept(value), () -> model.setKept(value));
            }
            default -> {
                int room = random.nextInt(3) == 0 ? 0 : about(300, random.nextInt(2) == 0 ? 3000 : 99999);
                int leak = about(0, random.nextInt(2) == 0 ? 1000 : 99999);
                compare("setBucket(" + room + ", " + leak + ")",
                        () -> cast.setBucket(room, leak), () -> model.setBucket(room, leak));
            }
        }
    }

    private void code() {
        int what = random.nextInt(14);
        char kind = what < 3 ? 'i' : what < 7 ? 'p' : what < 13 ? 'b' : (char) random.nextInt(300);
        int first = about(0, Math.max(0, model.kept() - 1));
        int second = about(0, Math.max(0, model.kept() - 1));
        compare("code(" + kind + ", " + first + ", " + second + ")",
                () -> cast.code(kind, first, second), () -> model.code(kind, first, second));
    }

    private void decode() {
        int what = random.nextInt(12);
        if (what < 2) {
            int picture = about(0, model.pictures());
            compare("join(" + picture + ")", () -> cast.join(picture), () -> model.join(picture));
        } else {
            int lost = what < 9 ? 0 : about(0, 3);
            compare("send(" + lost + ")", () -> cast.send(lost), () -> model.send(lost));
            compare("drift()", cast::drift, model::drift);
            compare("isClean()", cast::isClean, model::isClean);
            int x = about(0, 15);
            int y = about(0, 15);
            compare("shownAt(" + x + ", " + y + ")", () -> cast.shownAt(x, y), () -> model.shownAt(x, y));
        }
    }

    private void ask() {
        int picture = about(0, Math.max(0, model.pictures() - 1));
        int x = about(0, 15);
        int y = about(0, 15);
        int slice = about(0, 1);
        int index = about(0, 40);
        boolean isSecond = random.nextBoolean();
        compare("pixel(" + x + ", " + y + ")", () -> cast.pixel(x, y), () -> model.pixel(x, y));
        compare("keptAt(" + slice + ")", () -> cast.keptAt(slice), () -> model.keptAt(slice));
        compare("bucket()", cast::bucket, model::bucket);
        askWhole(picture);
        compare("bytes(" + picture + ", " + slice + ")",
                () -> cast.bytes(picture, slice), () -> model.bytes(picture, slice));
        compare("byteAt(" + picture + ", " + slice + ", " + index + ")",
                () -> cast.byteAt(picture, slice, index), () -> model.byteAt(picture, slice, index));
        askPixel(picture, x, y);
        compare("heaviest(" + picture + ")", () -> cast.heaviest(picture), () -> model.heaviest(picture));
        compare("commonest()", cast::commonest, model::commonest);
        compare("shown()", cast::shown, model::shown);
        compare("meanBits()", cast::meanBits, model::meanBits);
        compare("cleanShare()", cast::cleanShare, model::cleanShare);
    }

    private void askWhole(int picture) {
        compare("kindOf(" + picture + ")", () -> cast.kindOf(picture), () -> model.kindOf(picture));
        compare("coarsenessOf(" + picture + ")", () -> cast.coarsenessOf(picture), () -> model.coarsenessOf(picture));
        compare("errorOf(" + picture + ")", () -> cast.errorOf(picture), () -> model.errorOf(picture));
    }

    private void askPixel(int picture, int x, int y) {
        String at = "At(" + picture + ", " + x + ", " + y + ")";
        compare("part" + at, () -> cast.partAt(picture, x, y), () -> model.partAt(picture, x, y));
        compare("mode" + at, () -> cast.modeAt(picture, x, y), () -> model.modeAt(picture, x, y));
        compare("vector" + at, () -> cast.vectorAt(picture, x, y, false), () -> model.vectorAt(picture, x, y, false));
        compare("second vector" + at,
                () -> cast.vectorAt(picture, x, y, true), () -> model.vectorAt(picture, x, y, true));
        compare("level" + at, () -> cast.levelAt(picture, x, y), () -> model.levelAt(picture, x, y));
        compare("built" + at, () -> cast.built(picture, x, y), () -> model.built(picture, x, y));
    }

    private void lookAtAll() {
        run.append(" .. all that stands:");
        int length = run.length();
        for (int i = 0; i < 16; i++) {
            for (int j = 0; j < 16; j++) {
                int x = j;
                int y = i;
                run.setLength(length);
                compare("pixel(" + x + ", " + y + ")", () -> cast.pixel(x, y), () -> model.pixel(x, y));
                compare("shownAt(" + x + ", " + y + ")", () -> cast.shownAt(x, y), () -> model.shownAt(x, y));
                for (int picture = 0; picture < model.pictures(); picture++) {
                    askPixel(picture, x, y);
                }
            }
        }
        for (int i = 0; i < model.pictures(); i++) {
            int picture = i;
            run.setLength(length);
            askWhole(picture);
            compare("heaviest(" + picture + ")", () -> cast.heaviest(picture), () -> model.heaviest(picture));
            lookAtBytes(picture, 0);
            lookAtBytes(picture, 1);
        }
        compare("pictures()", cast::pictures, model::pictures);
        compare("kept()", cast::kept, model::kept);
        compare("coarseness()", cast::coarseness, model::coarseness);
    }

    private void lookAtBytes(int picture, int slice) {
        String bytes = Check.told(() -> model.bytes(picture, slice));
        int count = bytes.startsWith("throws") ? 0 : Integer.parseInt(bytes);
        for (int i = 0; i <= count; i++) {
            int index = i;
            compare("byteAt(" + picture + ", " + slice + ", " + index + ")",
                    () -> cast.byteAt(picture, slice, index), () -> model.byteAt(picture, slice, index));
        }
    }
}
