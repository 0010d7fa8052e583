import java.util.ArrayList;
import java.util.List;

/**
 * Rows of calls on a new object, each with what is due: "strength 0 0 99 = 0" is answered, "strength 0 0 100 ! 2" is
 * refused by 2, "led 0 ! throws" throws. Behind each row TROUBLE and where() are looked at; and behind each row that must
 * change nothing, an object to which it has happened is compared with one to which it hasn't.
 */
final class Script {
    private static final List<String> CHANGING =
            List.of("feed", "border", "waits", "go", "spray", "wash", "undo", "mark", "back");

    private interface Step {
        void on(Calls calls);
    }

    private final List<Step> steps = new ArrayList<>();
    private final Calls calls = new Calls();
    /** How an object looks to which the steps have happened; null if it has to be looked at anew. */
    private String look;

    private Script() {
    }

    /** With no BORDER. */
    static Script empty() {
        return new Script();
    }

    static Script of(String text) {
        Script script = new Script();
        int places = script.calls.tell(text);
        if (places < 1) {
            Check.due("fault " + script.calls.call("fault") + " at " + script.calls.call("where") + " of " + text,
                    places, 1);
        }
        script.keep(calls -> calls.tell(text));
        return script;
    }

    private void keep(Step step) {
        steps.add(step);
        look = null;
    }

    Script feeds(String text) {
        calls.feed(text);
        keep(calls -> calls.feed(text));
        return this;
    }

    /** A text with the sign ^ ahead of the place of its FAULT: border() is refused by 4, and the BORDER stays. */
    Script faulty(int fault, String marked) {
        int at = marked.indexOf('^');
        String text = marked.substring(0, at) + marked.substring(at + 1);
        String call = "border() of " + marked;
        Check.due(call, calls.tell(text), -1);
        Check.due("trouble() behind " + call, calls.call("trouble"), 4);
        Check.due("fault() behind " + call, calls.call("fault"), fault);
        Check.due("where() behind " + call, calls.call("where"), at);
        Check.due("size(13) behind " + call, calls.call("size", 13), 0);
        Calls other = replayed();
        other.tell(text);
        stays(call, other);
        return this;
    }

    Script rows(String... rows) {
        for (String row : rows) {
            row(row);
        }
        return this;
    }

    private void row(String row) {
        String[] words = row.split(" +");
        String name = words[0];
        int[] arguments = new int[words.length - 3];
        for (int i = 0; i < arguments.length; i++) {
            arguments[i] = number(words[i + 1]);
        }
        String due = words[words.length - 1];
        boolean fine = words[words.length - 2].equals("=");
        int trouble = Calls.mayBeRefused(name) ? fine ? 0 : number(due) : calls.call("trouble");
        int where = Calls.mayBeRefused(name) ? -1 : calls.call("where");
        int answer = calls.call(name, arguments);
        int want = fine || due.equals("throws") ? number(due) : Calls.refusal(name);
        Check.due(row + ":", answer, want);
        Check.due("trouble() behind " + row, calls.call("trouble"), trouble);
        Check.due("where() behind " + row, calls.call("where"), where);
        if (CHANGING.contains(name) && answer != Calls.refusal(name)) {
            keep(calls -> calls.call(name, arguments));
        } else {
            Calls other = replayed();
            int fault = other.call("fault");
            other.call(name, arguments);
            Check.due("fault() behind " + row, other.call("fault"), fault);
            stays(row, other);
        }
    }

    private static int number(String word) {
        switch (word) {
            case "throws":
                return Calls.THROWN;
            case "min":
                return Integer.MIN_VALUE;
            case "max":
                return Integer.MAX_VALUE;
            default:
                return Integer.parseInt(word);
        }
    }

    private Calls replayed() {
        Calls other = new Calls();
        for (Step step : steps) {
            step.on(other);
        }
        return other;
    }

    private void stays(String call, Calls other) {
        if (look == null) {
            look = replayed().look();
        }
        String now = other.look();
        if (!now.equals(look)) {
            String[] before = look.split("\n");
            String[] behind = now.split("\n");
            for (int i = 0; i < Math.min(before.length, behind.length); i++) {
                if (!before[i].equals(behind[i])) {
                    System.out.println("  before " + before[i] + ", behind " + behind[i]);
                }
            }
        }
        Check.due("nothing else changes behind " + call, now.equals(look), true);
    }
}
