import java.lang.reflect.InvocationTargetException;
import java.lang.reflect.Method;
import java.util.HashMap;
import java.util.List;
import java.util.Map;
import java.util.NoSuchElementException;

/** An object that is called by names, and for no more calls than the document promises something of. */
final class Calls {
    static final int MOST = 512;
    /** What call() answers where the face throws its one exception. */
    static final int THROWN = -999;

    private static final Map<String, Method> FACE = face();
    private static final List<String> NEVER_REFUSED = List.of("feed", "fault", "where", "led", "size", "trouble");

    private final SmellCustoms x = new SmellCustoms();
    private int made;

    private static Map<String, Method> face() {
        Map<String, Method> face = new HashMap<>();
        for (Method method : SmellCustoms.class.getMethods()) {
            if (method.getDeclaringClass() == SmellCustoms.class) {
                face.put(method.getName(), method);
            }
        }
        return face;
    }

    static boolean mayBeRefused(String name) {
        return !NEVER_REFUSED.contains(name);
    }

    /** What a refused call answers: NONE, or false, which counts 0. */
    static int refusal(String name) {
        return FACE.get(name).getReturnType() == boolean.class ? 0 : -1;
    }

    int made() {
        return made;
    }

    int call(String name, int... arguments) {
        made++;
        if (made > MOST) {
            Check.due("calls of one object, with " + name, made, MOST);
        }
        Object[] boxed = new Object[arguments.length];
        for (int i = 0; i < arguments.length; i++) {
            boxed[i] = arguments[i];
        }
        try {
            Object answer = FACE.get(name).invoke(x, boxed);
            return answer instanceof Boolean ? ((Boolean) answer ? 1 : 0) : (Integer) answer;
        } catch (InvocationTargetException e) {
            boolean promised = name.equals("led") && e.getCause() instanceof NoSuchElementException;
            Check.due(name + " throws " + e.getCause(), promised, true);
            return THROWN;
        } catch (IllegalAccessException e) {
            throw new IllegalStateException(e);
        }
    }

    /** How many bytes THE TAPE has then. */
    int feed(String text) {
        int taped = -1;
        String padded = text + " ".repeat((20 - text.length() % 20) % 20);
        for (int i = 0; i < padded.length(); i += 20) {
            int[] numbers = new int[5];
            for (int j = 0; j < 20; j++) {
                numbers[j / 4] = numbers[j / 4] << 8 | padded.charAt(i + j) & 255;
            }
            taped = call("feed", numbers);
        }
        return taped;
    }

    int tell(String text) {
        feed(text);
        return call("border", text.length());
    }

    /**
     * All that can be told of an object but TROUBLE and FAULT, each by calls whose answers are compared with those of
     * another object. It undoes, goes back and tells THE TAPE as a BORDER, so that nothing is to be asked behind it.
     */
    String look() {
        StringBuilder seen = new StringBuilder();
        for (int what = 0; what <= 13; what++) {
            note(seen, "size", what);
        }
        lookAtWhatIsTold(seen);
        for (String name : List.of("judge", "wrongly", "rounds", "been", "could", "surely", "posts")) {
            note(seen, name);
        }
        int travellers = call("size", 7);
        lookAtTravellers(seen, travellers);
        for (int acts = call("size", 11); acts > 0; acts--) {
            note(seen, "undo");
            for (int t = 0; t < travellers; t++) {
                note(seen, "traveller", t, 4);
                note(seen, "winds", t, 1, 0);
            }
        }
        int marks = call("size", 12);
        for (int mark = 0; mark < marks; mark++) {
            note(seen, "back", mark);
            for (int t = 0; t < travellers; t++) {
                note(seen, "traveller", t, 2);
                note(seen, "traveller", t, 3);
                note(seen, "winds", t, 1, 0);
            }
        }
        note(seen, "border", call("size", 13));
        note(seen, "fault");
        note(seen, "where");
        return seen.toString();
    }

    private void lookAtWhatIsTold(StringBuilder seen) {
        int smells = call("size", 2);
        for (int s = 0; s < smells; s++) {
            note(seen, "smell", s, 0);
            note(seen, "smell", s, 1);
            note(seen, "smell", s, 2);
        }
        int places = call("size", 4);
        for (int p = 0; p < places; p++) {
            note(seen, "place", p, 0);
            note(seen, "place", p, 1);
            for (int q = p + 1; q < places; q++) {
                note(seen, "path", p, q);
            }
        }
    }

    private void lookAtTravellers(StringBuilder seen, int travellers) {
        int smells = call("size", 2);
        int noses = call("size", 3);
        for (int t = 0; t < travellers; t++) {
            for (int what = 0; what <= 4; what++) {
                note(seen, "traveller", t, what);
            }
            for (int s = 0; s < smells; s++) {
                note(seen, "strength", t, s, 0);
            }
            // An hour of wind takes another number of halves, by which an odd half is seen.
            note(seen, "winds", t, 1, 1);
            note(seen, "walked", t);
            for (int nose = 0; nose < noses; nose++) {
                note(seen, "smelt", t, nose, 0);
            }
        }
    }

    private void note(StringBuilder seen, String name, int... arguments) {
        seen.append(name);
        for (int argument : arguments) {
            seen.append(' ').append(argument);
        }
        seen.append(": ").append(call(name, arguments)).append('\n');
    }
}
