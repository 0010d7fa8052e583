import java.lang.reflect.InvocationTargetException;
import java.lang.reflect.Method;
import java.lang.reflect.Modifier;
import java.util.ArrayList;
import java.util.Arrays;
import java.util.Collections;
import java.util.Comparator;
import java.util.List;
import java.util.Random;

/** Random texts and calls: the class and the Model must answer alike. All promises. */
public final class ModelTest {
    private static final int OBJECTS = 1500;
    private static final int[] EXTREMES = {-1, -2, Integer.MIN_VALUE, Integer.MAX_VALUE, 200, 65536, 65537, 100, 99, 14};
    private static final String[] POOL = {"a", "b", "c", "d", "e", "f", "g", "h", "i", "j", "k", "l", "m", "n", "o", "p",
        "q", "r", "s", "t", "u", "v", "w", "x", "wind", "at", "from", "plain", "home", "abcdefghi"};

    private static Random random;

    public static void main(String[] args) throws Exception {
        List<Method> methods = new ArrayList<>();
        for (Method method : SmellCustoms.class.getDeclaredMethods()) {
            if (Modifier.isPublic(method.getModifiers())) {
                methods.add(method);
            }
        }
        methods.sort(Comparator.comparing(Method::getName));
        for (int seed = 0; seed < OBJECTS; seed++) {
            random = new Random(seed);
            run(seed, methods);
        }
        Check.end("ModelTest");
    }

    private static void run(int seed, List<Method> methods) throws Exception {
        SmellCustoms x = new SmellCustoms();
        Model model = new Model();
        List<String> log = new ArrayList<>();
        for (int texts = 0; texts < 4; texts++) {
            String text = text();
            if (random.nextInt(3) == 0) {
                text = spoilt(text);
            }
            log.add(text);
            tell(x, model, text, log);
            for (int calls = random.nextInt(60); calls > 0; calls--) {
                Method method = methods.get(random.nextInt(methods.size()));
                boolean rare = List.of("border", "feed", "wash", "waits", "back").contains(method.getName());
                if (!rare || random.nextInt(4) == 0) {
                    compare(x, model, method, arguments(method, model), log);
                }
            }
        }
        if (seed % 4 == 0) {
            sweep(x, model, log);
        }
        if (seed % 100 == 0) {
            // A tape that is full.
            for (int i = 0; i < 57; i++) {
                compare(x, model, find("feed"), new Object[] {538976288, 538976288, i, 7, -1}, log);
            }
        }
    }

    /** The calls that look far, for all travellers and places. */
    private static void sweep(SmellCustoms x, Model model, List<String> log) throws Exception {
        for (int t = 0; t < model.size(7); t++) {
            for (int p = 0; p < model.size(4); p++) {
                for (String name : List.of("quickest", "cheapest", "secret", "rests", "rest", "mustWait", "walkedAt")) {
                    compare(x, model, find(name), new Object[] {t, p}, log);
                }
                for (int s = 0; s < model.size(2); s++) {
                    compare(x, model, find("cover"), new Object[] {t, s, p}, log);
                }
                for (int i = 0; i < 21; i++) {
                    compare(x, model, find("wayAt"), new Object[] {i % 3, t, p, i / 3}, log);
                }
            }
        }
        for (int p = 0; p < model.size(4); p++) {
            compare(x, model, find("postOf"), new Object[] {p}, log);
            compare(x, model, find("beenAt"), new Object[] {p}, log);
        }
    }

    private static void tell(SmellCustoms x, Model model, String text, List<String> log) throws Exception {
        compare(x, model, find("border"), new Object[] {0}, log);
        StringBuilder padded = new StringBuilder(text);
        while (padded.length() % 20 != 0) {
            padded.append(random.nextInt(20) == 0 ? 'z' : ' ');
        }
        for (int i = 0; i < padded.length(); i += 20) {
            Object[] numbers = new Object[5];
            for (int j = 0; j < 5; j++) {
                int at = i + 4 * j;
                numbers[j] = padded.charAt(at) << 24 | padded.charAt(at + 1) << 16 | padded.charAt(at + 2) << 8
                        | padded.charAt(at + 3);
            }
            compare(x, model, find("feed"), numbers, log);
        }
        compare(x, model, find("border"), new Object[] {text.length()}, log);
        log.add("  fault " + model.fault() + " at " + model.where());
    }

    private static Method find(String name) throws Exception {
        for (Method method : SmellCustoms.class.getDeclaredMethods()) {
            if (method.getName().equals(name)) {
                return method;
            }
        }
        throw new NoSuchMethodException(name);
    }

    private static Object[] arguments(Method method, Model model) {
        Object[] arguments = new Object[method.getParameterCount()];
        for (int i = 0; i < arguments.length; i++) {
            int sort = random.nextInt(40);
            int bound = 1 + (i == 0 ? Math.max(model.size(7), 1) : Math.max(model.size(2), model.size(4)));
            arguments[i] = sort == 0 ? EXTREMES[random.nextInt(EXTREMES.length)]
                    : sort < 3 ? random.nextInt(14)
                    : random.nextInt(random.nextInt(6) == 0 ? bound : Math.max(1, bound - 1));
            boolean last = i == arguments.length - 1;
            if (last && List.of("strength", "covered", "smelt", "duty", "claim", "winds", "windDuty", "waits", "spray")
                    .contains(method.getName())) {
                arguments[i] = random.nextInt(10) == 0 ? random.nextInt(110) - 5 : random.nextInt(20);
            }
            boolean seed = method.getName().startsWith("wind") && i == arguments.length - 2;
            if (seed && random.nextInt(10) > 0) {
                arguments[i] = random.nextInt(65537);
            }
        }
        return arguments;
    }

    private static void compare(SmellCustoms x, Model model, Method method, Object[] arguments, List<String> log)
            throws Exception {
        Method twin = Model.class.getMethod(method.getName(), method.getParameterTypes());
        String call = method.getName() + Arrays.toString(arguments);
        String got = answer(method, x, arguments) + ", fault " + x.fault() + " at " + x.where() + ", trouble "
                + x.trouble();
        String want = answer(twin, model, arguments) + ", fault " + model.fault() + " at " + model.where()
                + ", trouble " + model.trouble();
        log.add("  " + call);
        if (!got.equals(want)) {
            log.forEach(System.out::println);
            System.out.println(call + ": " + got + "; the model: " + want);
        }
        Check.due(call, got.equals(want), true);
    }

    private static String answer(Method method, Object object, Object[] arguments) throws Exception {
        try {
            return String.valueOf(method.invoke(object, arguments));
        } catch (InvocationTargetException e) {
            return e.getCause().getClass().getName();
        }
    }

    private static final class Names {
        private final List<String> free = new ArrayList<>(Arrays.asList(POOL));

        Names() {
            Collections.shuffle(free, random);
        }

        List<String> some(int low, int high) {
            List<String> names = new ArrayList<>();
            for (int i = low + random.nextInt(high - low + 1); i > 0 && !free.isEmpty(); i--) {
                names.add(free.remove(free.size() - 1));
            }
            return names;
        }
    }

    private static String one(List<String> names) {
        return names.get(random.nextInt(names.size()));
    }

    private static int from(int low, int high) {
        return low + random.nextInt(high - low + 1);
    }

    private static String text() {
        Names names = new Names();
        int rich = random.nextInt(3) == 0 ? 0 : 1;
        List<String> lines = new ArrayList<>();
        lines.add("border wind " + from(1, 5));
        List<String> lands = names.some(1 + rich, 4);
        lands.forEach(name -> lines.add("land " + name + " duty " + from(0, 9)));
        List<String> smells = names.some(3 * rich, 6);
        String[] kinds = {"plain", "plain", "heavy", "cover", "burnt", "incense"};
        smells.forEach(name -> lines.add("smell " + name + " " + kinds[random.nextInt(6)] + " from " + one(lands)));
        List<String> noses = names.some(rich, 4);
        int skilled = random.nextBoolean() ? 12 : 60;
        noses.forEach(name -> lines.add("nose " + name + " skill " + from(1, skilled)));
        List<String> places = names.some(1 + 3 * rich, 6);
        places.forEach(name -> lines.add("place " + name + " in " + one(lands)
                + (noses.isEmpty() || random.nextInt(3) == 0 ? "" : " nose " + one(noses))));
        List<String> travellers = names.some(2 * rich, 4);
        String[] people = {"simple", "simple", "soldier", "bride", "child"};
        List<String> rest = new ArrayList<>();
        addPaths(rest, places);
        List<String> walks = new ArrayList<>();
        for (String name : travellers) {
            String start = one(places);
            lines.add("traveller " + name + " " + people[random.nextInt(5)] + " home " + one(lands) + " at " + start);
            if (random.nextInt(5) > 0) {
                walks.add("walk " + name + " " + stops(start, rest, places));
            }
        }
        addPairs(rest, "leaves", places, smells, 8, random.nextBoolean() ? 60 : 6);
        addPairs(rest, "on", travellers, smells, 12, random.nextBoolean() ? 99 : 20);
        rest.addAll(walks);
        for (int i = travellers.isEmpty() ? 0 : from(0, 4); i > 0; i--) {
            rest.add("asked " + one(travellers) + " " + (random.nextBoolean() ? 0 : from(0, 99)));
        }
        for (String smell : smells) {
            if (random.nextInt(4) == 0) {
                rest.add("whiff " + smell + " " + (random.nextBoolean() ? 0 : from(0, 6)));
            }
        }
        Collections.shuffle(rest, random);
        lines.addAll(rest);
        String text = String.join(";", lines);
        while (text.length() > 1100) {
            lines.remove(lines.size() - 1);
            text = String.join(";", lines);
        }
        return text;
    }

    private static void addPaths(List<String> lines, List<String> places) {
        List<String> paths = new ArrayList<>();
        int far = random.nextBoolean() ? 40 : 4;
        for (int p = 0; p < places.size(); p++) {
            for (int q = 0; q < p; q++) {
                boolean turned = random.nextBoolean();
                paths.add("path " + places.get(turned ? p : q) + " " + places.get(turned ? q : p) + " hours "
                        + from(1, far));
            }
        }
        Collections.shuffle(paths, random);
        lines.addAll(paths.subList(0, Math.min(paths.size(), random.nextBoolean() ? 10 : from(0, 10))));
    }

    private static void addPairs(List<String> lines, String word, List<String> owners, List<String> smells, int most,
            int strongest) {
        List<String> pairs = new ArrayList<>();
        for (String owner : owners) {
            for (String smell : smells) {
                pairs.add(word + " " + owner + " " + smell + " " + from(1, strongest));
            }
        }
        Collections.shuffle(pairs, random);
        lines.addAll(pairs.subList(0, Math.min(pairs.size(), random.nextBoolean() ? most : from(0, most))));
    }

    /** Mostly along paths. */
    private static String stops(String start, List<String> paths, List<String> places) {
        StringBuilder line = new StringBuilder();
        String at = start;
        for (int i = from(1, random.nextBoolean() ? 2 : 5); i > 0; i--) {
            List<String> near = new ArrayList<>();
            for (String path : paths) {
                String[] words = path.split(" ");
                if (words[1].equals(at) || words[2].equals(at)) {
                    near.add(words[1].equals(at) ? words[2] : words[1]);
                }
            }
            at = near.isEmpty() || random.nextInt(15) == 0 ? one(places) : one(near);
            line.append(line.length() == 0 ? "" : random.nextBoolean() ? "," : " , ").append(at);
        }
        return line.toString();
    }

    /** One TOKEN or byte is left out, put twice, or made another. */
    private static String spoilt(String text) {
        if (random.nextInt(4) == 0) {
            int at = random.nextInt(text.length());
            String signs = "az09;, -A\n" + (char) 255;
            return text.substring(0, at) + signs.charAt(random.nextInt(signs.length())) + text.substring(at + 1);
        }
        String[] tokens = text.split("(?=[;, ])|(?<=[;, ])");
        int at = random.nextInt(tokens.length);
        String[] others = {"", tokens[at] + tokens[at], tokens[at] + " " + tokens[at], "in", "100", "0", ";", ",",
            tokens[random.nextInt(tokens.length)], "zz", "border", "land", "61", "abcdefghij"};
        tokens[at] = others[random.nextInt(others.length)];
        String spoilt = String.join("", tokens);
        return spoilt.length() > 1100 ? spoilt.substring(0, 1100) : spoilt;
    }
}
