/** What the tests share: counts answers that are not the ones that are due, and ends with 1 if there were any. */
final class Check {
    interface Call {
        Object answer();
    }

    private static int wrong = 0;
    private static int looked = 0;
    private static String sentence = "";

    private Check() {
    }

    /** Says which words of the document the answers that follow are about; they must stand in it. */
    static void sentence(String section, String words) {
        sentence = section + ", \"" + words + "\": ";
        same("the document says this", Doc.has(section, words) ? "yes" : "no", "yes");
    }

    /** An answer as a text, or what the call throws, as the class's name behind "throws". */
    static String told(Call call) {
        try {
            return String.valueOf(call.answer());
        } catch (RuntimeException e) {
            return "throws " + e.getClass().getSimpleName();
        }
    }

    static void due(String what, Call call, Object want) {
        same(what, told(call), String.valueOf(want));
    }

    static void same(String what, String got, String want) {
        looked++;
        if (!got.equals(want)) {
            wrong++;
            if (wrong <= 50) {
                System.out.println(sentence + what + " answered " + got + ", due is " + want);
            }
        }
    }

    static void illegal(String what, Call call) {
        due(what, call, "throws IllegalArgumentException");
    }

    static void outside(String what, Call call) {
        due(what, call, "throws IndexOutOfBoundsException");
    }

    static void missing(String what, Call call) {
        due(what, call, "throws NoSuchElementException");
    }

    static void end(String name) {
        System.out.println(name + ": " + looked + " answers looked at, " + wrong + " wrong");
        if (wrong > 0) {
            System.exit(1);
        }
    }
}
