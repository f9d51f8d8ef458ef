import java.util.Objects;

/** Compares answers with those that are due, and ends a test with exit code 1 if one differs. */
final class Check {
    private static int wrong = 0;
    private static int made = 0;
    private static String about = "";

    private Check() {
    }

    /** A call that may throw. */
    interface Call {
        Object answer();
    }

    /** Words that stand before each line about a wrong answer from now on. */
    static void about(String words) {
        about = words;
    }

    static int made() {
        return made;
    }

    static void same(String what, Object got, Object due) {
        made++;
        if (!Objects.equals(got, due)) {
            wrong++;
            System.out.println(about + what + " answered " + got + ", due is " + due);
        }
    }

    /** The answer of a call, or throws. and the name of the exception that it throws. */
    static Object answer(Call call) {
        try {
            return call.answer();
        } catch (RuntimeException e) {
            return "throws." + e.getClass().getSimpleName();
        }
    }

    static void answers(String what, Call call, Object due) {
        same(what, answer(call), due);
    }

    /** Checks that a call throws an exception of a class, and changes nothing and is no access. */
    static void refuses(TypedColumns x, String what, Call call, Class<? extends RuntimeException> due) {
        long digest = x.digest();
        int code = x.code();
        int columns = x.columnCount();
        same(what, answer(call), "throws." + due.getSimpleName());
        same("digest() after " + what, x.digest(), digest);
        same("code() after " + what, x.code(), code);
        same("columnCount() after " + what, x.columnCount(), columns);
    }

    /** Checks that the latest access had a code, and that since counts were taken only its count grew, by 1. */
    static void oneMore(TypedColumns x, String what, int[] before, int code) {
        same("code() after " + what, x.code(), code);
        for (int k = 0; k < before.length; k++) {
            same("count(" + k + ") after " + what, x.count(k), before[k] + (k == code ? 1 : 0));
        }
    }

    /** Checks the answer and the code of an access, and that it changes nothing but how many had this code. */
    static void countsOnly(TypedColumns x, String what, Call call, Object due, int code) {
        int[] before = counts(x);
        int columns = x.columnCount();
        long digest = x.digest();
        same(what, answer(call), due);
        oneMore(x, what, before, code);
        same("columnCount() after " + what, x.columnCount(), columns);
        // the counts are the last numbers of a digest, so that one more with a code weighs a power of 31
        long weight = 1;
        for (int k = code; k < before.length - 1; k++) {
            weight *= 31;
        }
        same("digest() after " + what, x.digest(), digest + weight);
    }

    static int[] counts(TypedColumns x) {
        int[] counts = new int[6];
        for (int k = 0; k < counts.length; k++) {
            counts[k] = x.count(k);
        }
        return counts;
    }

    static void end() {
        System.out.println(wrong == 0 ? made + " answers are as due" : wrong + " answers are not as due");
        if (wrong != 0) {
            System.exit(1);
        }
    }
}
