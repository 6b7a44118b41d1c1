import java.io.IOException;
import java.lang.reflect.Constructor;
import java.lang.reflect.Field;
import java.lang.reflect.Method;
import java.lang.reflect.Modifier;
import java.nio.file.Files;
import java.nio.file.Path;
import java.util.ArrayList;
import java.util.List;
import java.util.TreeSet;

/** The public face of the document, and those rules of ../shared/LANGUAGE.md that a program can look at. */
final class FaceTest {
    private static final String[] FACE = {
        "int fill(int, int, int, int, int) IllegalArgumentException",
        "int slope(int, int, int) IllegalArgumentException",
        "int grain(int, int) IllegalArgumentException",
        "int move(int, int) IllegalArgumentException",
        "int pixel(int, int) IndexOutOfBoundsException",
        "int setCoarseness(int) IllegalArgumentException",
        "int setTools(int) IllegalArgumentException",
        "int setSlices(int) IllegalArgumentException",
        "boolean setKept(boolean)",
        "int setBucket(int, int) IllegalArgumentException",
        "int code(char, int, int) IllegalArgumentException IndexOutOfBoundsException IllegalStateException "
            + "UnsupportedOperationException",
        "int pictures()",
        "int kept()",
        "int keptAt(int) IndexOutOfBoundsException",
        "int coarseness()",
        "int bucket() NoSuchElementException",
        "char kindOf(int) IndexOutOfBoundsException",
        "int coarsenessOf(int) IndexOutOfBoundsException",
        "int bytes(int, int) IndexOutOfBoundsException",
        "int byteAt(int, int, int) IndexOutOfBoundsException",
        "int partAt(int, int, int) IndexOutOfBoundsException",
        "int modeAt(int, int, int) IndexOutOfBoundsException",
        "int vectorAt(int, int, int, boolean) IndexOutOfBoundsException NoSuchElementException",
        "int levelAt(int, int, int) IndexOutOfBoundsException",
        "int built(int, int, int) IndexOutOfBoundsException",
        "long errorOf(int) IndexOutOfBoundsException",
        "int heaviest(int) IndexOutOfBoundsException",
        "int commonest() NoSuchElementException",
        "char send(int) NoSuchElementException IllegalArgumentException",
        "int join(int) IndexOutOfBoundsException",
        "int shown() NoSuchElementException",
        "int shownAt(int, int) IndexOutOfBoundsException NoSuchElementException",
        "boolean isClean() NoSuchElementException",
        "int drift() NoSuchElementException",
        "double meanBits() ArithmeticException",
        "float cleanShare() ArithmeticException",
    };
    private static final String[] NOT_ALLOWED = {"->", "::", "finally", "synchronized", "assert ", "instanceof",
        "catch", "try ", "System.", "Exact(", "Random", "Thread", "\" +", "+ \"", "native ", "volatile "};

    private FaceTest() {
    }

    public static void main(String[] args) throws IOException {
        face();
        faceOfTheDocument(Files.readString(Path.of("src/main/java/BlockCast.java")));
        classes();
        text(Files.readAllLines(Path.of("src/main/java/BlockCast.java")));
        manyCalls();
        all512Calls();
        Check.end("FaceTest");
    }

    private static String told(Method method) {
        StringBuilder text = new StringBuilder(method.getReturnType().getName());
        text.append(' ').append(method.getName()).append('(');
        for (int i = 0; i < method.getParameterCount(); i++) {
            text.append(i == 0 ? "" : ", ").append(method.getParameterTypes()[i].getName());
        }
        text.append(')');
        for (Class<?> exception : method.getExceptionTypes()) {
            text.append(' ').append(exception.getSimpleName());
        }
        return text.toString();
    }

    private static void face() {
        Check.due("public and final", () -> Modifier.toString(BlockCast.class.getModifiers()), "public final");
        TreeSet<String> seen = new TreeSet<>();
        TreeSet<String> names = new TreeSet<>();
        for (Method method : BlockCast.class.getDeclaredMethods()) {
            if (Modifier.isPublic(method.getModifiers())) {
                seen.add(told(method));
                names.add(method.getName());
            } else {
                Check.due("private: " + method, () -> Modifier.isPrivate(method.getModifiers()), true);
            }
        }
        Check.due("the face", () -> seen, new TreeSet<>(List.of(FACE)));
        for (Constructor<?> constructor : BlockCast.class.getDeclaredConstructors()) {
            Check.due("constructor", constructor::toString, "public BlockCast()");
        }
        for (Class<?> type : withNested()) {
            for (Method method : type.getDeclaredMethods()) {
                boolean isFace = Modifier.isPublic(method.getModifiers()) && type == BlockCast.class;
                Check.due("no name of the face: " + method, () -> isFace || !names.contains(method.getName()), true);
                Check.due("at most seven parameters: " + method, () -> method.getParameterCount() <= 7, true);
            }
        }
    }

    /** The class declares what the document's face declares, word by word and in its order, and each promise tells it. */
    private static void faceOfTheDocument(String source) throws IOException {
        String words = source.replaceAll("\\s+", " ");
        String document = Files.readString(Path.of("../shared/DOC.md"));
        int at = 0;
        int declared = 0;
        for (String line : document.substring(0, document.indexOf("## Terms")).split("\n")) {
            if (!line.startsWith("    public ")) {
                continue;
            }
            String call = line.strip().replace(";", "");
            int found = words.indexOf(call + " {", at);
            Check.due("declared behind the one before: " + call, () -> found >= 0, true);
            Check.due("told by a promise: " + call,
                    () -> document.contains("\n`" + call.replace("public ", "") + "`: "), true);
            at = Math.max(at, found);
            declared++;
        }
        int count = declared;
        Check.due("a constructor and 36 calls", () -> count, 37);
    }

    private static List<Class<?>> withNested() {
        List<Class<?>> types = new ArrayList<>();
        types.add(BlockCast.class);
        types.addAll(List.of(BlockCast.class.getDeclaredClasses()));
        return types;
    }

    private static void classes() {
        Check.due("some twelve classes", () -> withNested().size() <= 12, true);
        for (Class<?> type : withNested()) {
            int fields = 0;
            for (Field field : type.getDeclaredFields()) {
                boolean isConstant = Modifier.isStatic(field.getModifiers());
                fields += isConstant ? 0 : 1;
                Check.due("constants are final: " + field,
                        () -> !isConstant || Modifier.isFinal(field.getModifiers()), true);
                Check.due("private: " + field, () -> Modifier.isPrivate(field.getModifiers()), true);
            }
            int count = fields;
            Check.due("some twenty fields: " + type, () -> count <= 20, true);
            int modifiers = type.getModifiers();
            Check.due("nested classes are static: " + type,
                    () -> type == BlockCast.class || Modifier.isStatic(modifiers) && !Modifier.isPublic(modifiers), true);
        }
    }

    private static void text(List<String> lines) {
        int begin = 0;
        for (int i = 0; i < lines.size(); i++) {
            String line = lines.get(i);
            String at = "line " + (i + 1);
            Check.due(at + " is written in signs 1 to 127", () -> line.chars().allMatch(c -> c > 0 && c < 128), true);
            Check.due(at + " imports nothing else", () -> !line.startsWith("import ")
                    || line.equals("import java.util.NoSuchElementException;"), true);
            for (String word : NOT_ALLOWED) {
                Check.due(at + " has no " + word, () -> line.contains(word), false);
            }
            if (line.matches(" +(public|private|static|void|boolean|int|char|long|[A-Z]\\w+)\\b[^=;]*\\(.*")) {
                begin = i;
            }
            int length = i - begin;
            if (line.equals("    }") || line.equals("        }")) {
                Check.due(at + " ends a method of some sixty lines", () -> length <= 60, true);
            }
        }
    }

    /** No call throws anything that the document does not name, whatever its arguments are. */
    private static void manyCalls() {
        int[] numbers = {Integer.MIN_VALUE, -256, -17, -1, 0, 1, 2, 3, 7, 11, 12, 15, 16, 255, 99999, Integer.MAX_VALUE};
        BlockCast cast = new BlockCast();
        cast.grain(1, 99);
        cast.code('i', 0, 0);
        cast.code('b', 0, 0);
        cast.send(0);
        String allowed = " IllegalArgumentException IndexOutOfBoundsException NoSuchElementException "
                + "UnsupportedOperationException ";
        for (int a : numbers) {
            for (int b : numbers) {
                for (int c : numbers) {
                    Check.Call[] calls = {() -> cast.fill(a, b, c, a, b), () -> cast.fill(b, c, a, c, 9),
                        () -> cast.byteAt(a, b, c), () -> cast.partAt(a, b, c), () -> cast.modeAt(a, b, c),
                        () -> cast.vectorAt(a, b, c, true), () -> cast.levelAt(a, b, c), () -> cast.built(a, b, c),
                        () -> cast.slope(a, b, c)};
                    for (Check.Call call : calls) {
                        String told = Check.told(call);
                        boolean isFine = !told.startsWith("throws ") || allowed.contains(told.substring(6) + " ");
                        Check.due("arguments " + a + " " + b + " " + c + ": " + told, () -> isFine, true);
                    }
                }
            }
        }
    }

    /** The dearest calls, up to the last one that an object is used for: they answer, and need little room. */
    private static void all512Calls() {
        Check.sentence("What it is", "An object is used for at most 512 calls after it has been made");
        com.sun.management.ThreadMXBean threads
                = (com.sun.management.ThreadMXBean) java.lang.management.ManagementFactory.getThreadMXBean();
        for (int pictures = 1; pictures <= 12; pictures += 11) {
            int count = pictures;
            long before = threads.getCurrentThreadAllocatedBytes();
            BlockCast cast = new BlockCast();
            int calls = prepare(cast, count);
            for (; calls < 511; calls++) {
                refusedCode(cast, count);
            }
            long used = threads.getCurrentThreadAllocatedBytes() - before;
            Check.due("the call 512", cast::pictures, count);
            Check.due("less than a million elements: " + used, () -> used < 4000000, true);
        }
    }

    private static int prepare(BlockCast cast, int pictures) {
        cast.grain(1, 99);
        cast.setCoarseness(1);
        for (int i = 0; i < pictures; i++) {
            cast.code(i == 0 ? 'i' : 'b', 0, 0);
        }
        cast.setBucket(1, 0);
        return pictures + 3;
    }

    private static void refusedCode(BlockCast cast, int pictures) {
        try {
            cast.code('b', 0, 0);
            Check.same("a full bucket, or 12 pictures", "coded", "refused");
        } catch (UnsupportedOperationException e) {
            Check.due("a full bucket", () -> pictures < 12, true);
        } catch (IllegalStateException e) {
            Check.due("12 pictures", () -> pictures, 12);
        }
    }
}
