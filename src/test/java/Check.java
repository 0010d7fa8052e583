import java.util.NoSuchElementException;

/** What the tests share: counting answers, and telling a text. */
final class Check {
    private static int right;
    private static int wrong;

    private Check() {
    }

    static void due(String call, long got, long want) {
        if (got == want) {
            right++;
        } else {
            wrong++;
            System.out.println(call + " answered " + got + ", due is " + want);
        }
    }

    static void due(String call, boolean got, boolean want) {
        due(call, got ? 1 : 0, want ? 1 : 0);
    }

    /** An answer of a call that may be refused and was not. */
    static void fine(SmellCustoms x, String call, long got, long want) {
        due(call, got, want);
        due("trouble() behind " + call, x.trouble(), 0);
        due("where() behind " + call, x.where(), -1);
    }

    static void fine(SmellCustoms x, String call, boolean got) {
        fine(x, call, got ? 1 : 0, 1);
    }

    static void refused(SmellCustoms x, String call, long got, int why) {
        due(call, got, -1);
        due("trouble() behind " + call, x.trouble(), why);
        due("where() behind " + call, x.where(), -1);
    }

    static void refused(SmellCustoms x, String call, boolean got, int why) {
        refused(x, call, got ? 1 : -1, why);
    }

    static void feed(SmellCustoms x, String text) {
        StringBuilder padded = new StringBuilder(text);
        while (padded.length() % 20 != 0) {
            padded.append(' ');
        }
        for (int i = 0; i < padded.length(); i += 20) {
            x.feed(number(padded, i), number(padded, i + 4), number(padded, i + 8),
                    number(padded, i + 12), number(padded, i + 16));
        }
    }

    private static int number(CharSequence text, int at) {
        return text.charAt(at) << 24 | text.charAt(at + 1) << 16 | text.charAt(at + 2) << 8 | text.charAt(at + 3);
    }

    static int tell(SmellCustoms x, String text) {
        feed(x, text);
        return x.border(text.length());
    }

    static SmellCustoms told(String text) {
        SmellCustoms x = new SmellCustoms();
        int places = tell(x, text);
        if (places < 1) {
            due("border() of " + text + " (fault " + x.fault() + " at " + x.where() + ")", places, 1);
        }
        return x;
    }

    /** The answer of led(), or -9 if it throws. */
    static int led(SmellCustoms x, int i) {
        try {
            return x.led(i);
        } catch (NoSuchElementException e) {
            return -9;
        }
    }

    static void end(String test) {
        System.out.println(test + ": " + right + " answers as due, " + wrong + " not");
        if (wrong > 0 || right == 0) {
            System.exit(1);
        }
    }
}
