import java.util.NoSuchElementException;

/** What the tests share: they print every answer that is not the one due, and end with exit code 1 if there was one. */
final class Check {
    interface Call {
        long run();
    }

    private static String test = "";
    private static int wrong = 0;
    private static int asked = 0;

    private Check() {
    }

    /** From here on, what is printed is told with the name of this test. */
    static void begin(String name) {
        test = name + ": ";
    }

    static void due(String what, long got, long want) {
        asked++;
        if (got != want) {
            wrong++;
            System.out.println(test + what + " answered " + got + ", due is " + want);
        }
    }

    static void due(String what, boolean got, boolean want) {
        due(what, got ? 1 : 0, want ? 1 : 0);
    }

    static void noElement(String what, Call call) {
        due(what + " throws", thrownBy(call), "NoSuchElementException");
    }

    static void badArgument(String what, Call call) {
        due(what + " throws", thrownBy(call), "IllegalArgumentException");
    }

    static void due(String what, String got, String want) {
        asked++;
        if (!got.equals(want)) {
            wrong++;
            System.out.println(test + what + " answered " + got + ", due is " + want);
        }
    }

    /** An answer as text, so that an exception can be one too. */
    static String answer(Call call) {
        try {
            return Long.toString(call.run());
        } catch (NoSuchElementException | IllegalArgumentException e) {
            return "throws." + e.getClass().getSimpleName();
        }
    }

    private static String thrownBy(Call call) {
        String answer = answer(call);
        return answer.startsWith("throws.") ? answer.substring("throws.".length()) : "nothing";
    }

    /** Puts a text onto the tape, with blanks behind it up to a whole feed; true if all of it found room. */
    static boolean feed(LogRiver x, String text) {
        for (int i = 0; i < text.length(); i += 20) {
            if (x.feed(four(text, i), four(text, i + 4), four(text, i + 8), four(text, i + 12), four(text, i + 16)) < 0) {
                return false;
            }
        }
        return true;
    }

    static int four(String text, int at) {
        int word = 0;
        for (int i = at; i < at + 4; i++) {
            word = word << 8 | (i < text.length() ? text.charAt(i) & 255 : ' ');
        }
        return word;
    }

    static int tell(LogRiver x, String text, int day) {
        feed(x, text);
        return x.law(text.length(), day);
    }

    static void finish() {
        System.out.println(asked + " answers asked, " + wrong + " are not as due");
        if (wrong != 0) {
            System.exit(1);
        }
    }
}
