/** What the tests share: counts answers that are not the ones that are due, and ends with 1 if there were any. */
final class Check {
    interface Call {
        Object answer();
    }

    private static int wrong = 0;
    private static int looked = 0;

    private Check() {
    }

    /** An answer as a text, or what the call throws, as the class's name behind "throws". */
    static String told(Call call) {
        try {
            return String.valueOf(call.answer());
        } catch (RuntimeException e) {
            return "throws " + e.getClass().getSimpleName();
        }
    }

    static void due(String what, Call call, Object want) {
        same(what, told(call), String.valueOf(want));
    }

    static void same(String what, String got, String want) {
        looked++;
        if (!got.equals(want)) {
            wrong++;
            if (wrong <= 50) {
                System.out.println(what + " answered " + got + ", due is " + want);
            }
        }
    }

    static void illegal(String what, Call call) {
        due(what, call, "throws IllegalArgumentException");
    }

    static void outside(String what, Call call) {
        due(what, call, "throws IndexOutOfBoundsException");
    }

    static void missing(String what, Call call) {
        due(what, call, "throws NoSuchElementException");
    }

    static void end(String name) {
        System.out.println(name + ": " + looked + " answers looked at, " + wrong + " wrong");
        if (wrong > 0) {
            System.exit(1);
        }
    }
}
