import java.util.ArrayDeque;
import java.util.ArrayList;
import java.util.Arrays;
import java.util.Comparator;
import java.util.HashMap;
import java.util.LinkedHashMap;
import java.util.List;
import java.util.Map;
import java.util.NoSuchElementException;
import java.util.regex.Matcher;
import java.util.regex.Pattern;

/** A second writing of the document, slow and plain, with which ModelTest compares the class: hour by hour, row by row. */
public final class Model {
    private static final class Refusal extends RuntimeException {
        private static final long serialVersionUID = 1;
        private final int why;

        Refusal(int why) {
            this.why = why;
        }
    }

    private static final class Fault extends RuntimeException {
        private static final long serialVersionUID = 1;
        private final int number;
        private final int at;

        Fault(int number, int at) {
            this.number = number;
            this.at = at;
        }
    }

    private interface Asking {
        int get();
    }

    private record Token(String text, int at) {
    }

    private record Smell(String kind, int land) {
    }

    private record Place(int land, int nose) {
    }

    private record Traveller(String sort, int home, int start) {
    }

    private record Asked(int traveller, int whole) {
    }

    private record Name(String sort, int number) {
    }

    private record State(int place, int paid, int hours, Map<Integer, Integer> halves) {
        State copy() {
            return new State(place, paid, hours, new HashMap<>(halves));
        }
    }

    private static final List<String> KINDS = List.of("plain", "heavy", "cover", "burnt", "incense");
    private static final List<String> PEOPLE = List.of("simple", "soldier", "bride", "child");
    private static final List<String> RESERVED = List.of("border", "land", "smell", "nose", "place", "path", "leaves",
            "traveller", "on", "walk", "asked", "whiff", "in");

    private static final class Told {
        private int wind;
        private final List<Integer> lands = new ArrayList<>();
        private final List<Smell> smells = new ArrayList<>();
        private final List<Integer> noses = new ArrayList<>();
        private final List<Place> places = new ArrayList<>();
        private final Map<List<Integer>, Integer> paths = new LinkedHashMap<>();
        private final Map<List<Integer>, Integer> leaves = new LinkedHashMap<>();
        private final List<Traveller> travellers = new ArrayList<>();
        private final Map<List<Integer>, Integer> on = new LinkedHashMap<>();
        private final Map<Integer, List<Integer>> walks = new LinkedHashMap<>();
        private final List<Asked> asked = new ArrayList<>();
        private final Map<Integer, Integer> whiffs = new LinkedHashMap<>();
    }

    /** Tokens are looked for one by one; behind one that is wrong nothing is looked at. */
    private static final class Parser {
        private static final Pattern TOKEN = Pattern.compile(" *(?:([a-z]+)|([0-9]+)|([;,])|(.)|$)", Pattern.DOTALL);
        private final String text;
        private final Matcher matcher;
        private final Told told = new Told();
        private final Map<String, Name> names = new HashMap<>();
        private Token token;

        Parser(String text) {
            this.text = text;
            this.matcher = TOKEN.matcher(text);
            advance();
        }

        private void advance() {
            int from = token == null ? 0 : token.at + token.text.length();
            matcher.region(from, text.length());
            matcher.lookingAt();
            for (int group = 1; group <= 4; group++) {
                if (matcher.group(group) != null) {
                    token = new Token(matcher.group(group), matcher.start(group));
                    return;
                }
            }
            token = new Token("", text.length());
        }

        private boolean isWord() {
            return token.text.matches("[a-z]{1,9}");
        }

        private Fault fault(int number) {
            return new Fault(number, token.at);
        }

        private void need(String word) {
            if (!token.text.equals(word)) {
                throw fault(1);
            }
            advance();
        }

        private int whole(int low, int high) {
            if (!token.text.matches("[0-9]{1,2}")) {
                throw fault(1);
            }
            int number = Integer.parseInt(token.text);
            if (number < low || number > high) {
                throw fault(4);
            }
            advance();
            return number;
        }

        private String oneOf(List<String> words) {
            if (!words.contains(token.text)) {
                throw fault(1);
            }
            String word = token.text;
            advance();
            return word;
        }

        private void tellName(String sort, int number) {
            if (!isWord() || RESERVED.contains(token.text)) {
                throw fault(1);
            }
            if (names.containsKey(token.text)) {
                throw fault(3);
            }
            names.put(token.text, new Name(sort, number));
            advance();
        }

        /** The number of a NAME that stands here; the TOKEN is not passed. */
        private int look(String sort) {
            if (!isWord() || RESERVED.contains(token.text)) {
                throw fault(1);
            }
            Name name = names.get(token.text);
            if (name == null || !name.sort.equals(sort)) {
                throw fault(2);
            }
            return name.number;
        }

        private int name(String sort) {
            int number = look(sort);
            advance();
            return number;
        }

        private void room(int has, int most) {
            if (has >= most) {
                throw fault(5);
            }
            advance();
        }

        Told parse() {
            line();
            while (token.text.equals(";")) {
                advance();
                line();
            }
            if (!token.text.isEmpty()) {
                throw fault(1);
            }
            if (told.lands.isEmpty() || told.places.isEmpty()) {
                throw fault(6);
            }
            return told;
        }

        private void line() {
            String word = token.text;
            if (!RESERVED.contains(word) || word.equals("in")) {
                throw fault(1);
            }
            boolean first = told.wind == 0;
            if (word.equals("border")) {
                if (!first) {
                    throw fault(3);
                }
                advance();
                need("wind");
                told.wind = whole(1, 5);
                return;
            }
            if (first) {
                throw fault(6);
            }
            switch (word) {
                case "land" -> {
                    room(told.lands.size(), 4);
                    tellName("land", told.lands.size());
                    need("duty");
                    told.lands.add(whole(0, 9));
                }
                case "smell" -> {
                    room(told.smells.size(), 6);
                    tellName("smell", told.smells.size());
                    String kind = oneOf(KINDS);
                    need("from");
                    told.smells.add(new Smell(kind, name("land")));
                }
                case "nose" -> {
                    room(told.noses.size(), 4);
                    tellName("nose", told.noses.size());
                    need("skill");
                    told.noses.add(whole(1, 60));
                }
                case "place" -> place();
                case "path" -> path();
                case "leaves" -> {
                    room(told.leaves.size(), 8);
                    pair(told.leaves, "place", 60);
                }
                case "traveller" -> traveller();
                case "on" -> {
                    room(told.on.size(), 12);
                    pair(told.on, "traveller", 99);
                }
                case "walk" -> walk();
                case "asked" -> {
                    room(told.asked.size(), 4);
                    int t = name("traveller");
                    told.asked.add(new Asked(t, whole(0, 99)));
                }
                default -> whiff();
            }
        }

        private void place() {
            room(told.places.size(), 6);
            tellName("place", told.places.size());
            need("in");
            int land = name("land");
            int nose = -2;
            if (token.text.equals("nose")) {
                advance();
                nose = name("nose");
            }
            told.places.add(new Place(land, nose));
        }

        private void path() {
            room(told.paths.size() / 2, 10);
            int p = name("place");
            int q = look("place");
            if (p == q || told.paths.containsKey(List.of(p, q))) {
                throw fault(3);
            }
            advance();
            need("hours");
            int hours = whole(1, 40);
            told.paths.put(List.of(p, q), hours);
            told.paths.put(List.of(q, p), hours);
        }

        private void pair(Map<List<Integer>, Integer> pairs, String sort, int high) {
            int owner = name(sort);
            int s = look("smell");
            if (pairs.containsKey(List.of(owner, s))) {
                throw fault(3);
            }
            advance();
            pairs.put(List.of(owner, s), whole(1, high));
        }

        private void traveller() {
            room(told.travellers.size(), 4);
            tellName("traveller", told.travellers.size());
            String sort = oneOf(PEOPLE);
            need("home");
            int home = name("land");
            need("at");
            told.travellers.add(new Traveller(sort, home, name("place")));
        }

        private void walk() {
            advance();
            int t = look("traveller");
            if (told.walks.containsKey(t)) {
                throw fault(3);
            }
            advance();
            List<Integer> stops = new ArrayList<>();
            stops.add(name("place"));
            while (token.text.equals(",")) {
                advance();
                int p = look("place");
                if (stops.size() == 5) {
                    throw fault(5);
                }
                advance();
                stops.add(p);
            }
            told.walks.put(t, stops);
        }

        private void whiff() {
            advance();
            int s = look("smell");
            if (told.whiffs.containsKey(s)) {
                throw fault(3);
            }
            advance();
            told.whiffs.put(s, whole(0, 60));
        }
    }

    private final StringBuilder tape = new StringBuilder();
    private Told told;
    private List<State> now = new ArrayList<>();
    private final ArrayDeque<List<State>> earlier = new ArrayDeque<>();
    private final List<List<State>> marks = new ArrayList<>();
    private int trouble;
    private int fault;
    private int faultAt;

    public int feed(int a, int b, int c, int d, int e) {
        if (tape.length() + 20 > 1100) {
            return -1;
        }
        for (int number : new int[] {a, b, c, d, e}) {
            for (int i = 3; i >= 0; i--) {
                tape.append((char) (number >> 8 * i & 255));
            }
        }
        return tape.length();
    }

    public int border(int n) {
        return ask(() -> {
            need(n >= 0 && n <= tape.length(), 2);
            String text = tape.substring(0, n);
            tape.setLength(0);
            fault = 0;
            try {
                told = new Parser(text).parse();
            } catch (Fault f) {
                fault = f.number;
                faultAt = f.at;
                throw new Refusal(4);
            }
            now = new ArrayList<>();
            for (int t = 0; t < told.travellers.size(); t++) {
                Map<Integer, Integer> halves = new HashMap<>();
                for (int s = 0; s < told.smells.size(); s++) {
                    halves.put(s, 2 * told.on.getOrDefault(List.of(t, s), 0));
                }
                now.add(new State(told.travellers.get(t).start, 0, 0, halves));
            }
            earlier.clear();
            marks.clear();
            return told.places.size();
        });
    }

    public int fault() {
        return fault;
    }

    public int where() {
        return trouble == 4 ? faultAt : -1;
    }

    public int smell(int s, int what) {
        return ask(() -> {
            needSmell(s);
            Smell smell = told.smells.get(s);
            return pick(what, KINDS.indexOf(smell.kind), smell.land, told.lands.get(smell.land));
        });
    }

    public int place(int p, int what) {
        return ask(() -> {
            needPlace(p);
            int degree = (int) told.paths.keySet().stream().filter(pair -> pair.get(0) == p).count();
            return pick(what, told.places.get(p).land, told.places.get(p).nose, degree);
        });
    }

    public int traveller(int t, int what) {
        return ask(() -> {
            needTraveller(t);
            State he = now.get(t);
            return pick(what, PEOPLE.indexOf(sort(t)), told.travellers.get(t).home, he.place, he.paid, he.hours);
        });
    }

    public int path(int p, int q) {
        return ask(() -> {
            needPlace(p);
            needPlace(q);
            need(p != q, 1);
            return told.paths.getOrDefault(List.of(p, q), -2);
        });
    }

    public int strength(int t, int s, int hours) {
        return ask(() -> {
            needTraveller(t);
            needSmell(s);
            need(hours >= 0 && hours <= 99, 2);
            return later(t, hours).get(s) / 2;
        });
    }

    public int covered(int t, int s, int hours) {
        return ask(() -> {
            needTraveller(t);
            needSmell(s);
            need(hours >= 0 && hours <= 99, 2);
            return left(later(t, hours), s);
        });
    }

    public int smelt(int t, int nose, int hours) {
        return ask(() -> {
            needTraveller(t);
            need(told != null && nose >= 0 && nose < told.noses.size(), 1);
            need(hours >= 0 && hours <= 99, 2);
            int bits = 0;
            for (int s = told.smells.size() - 1; s >= 0; s--) {
                bits = 2 * bits + (left(later(t, hours), s) >= told.noses.get(nose) ? 1 : 0);
            }
            return bits;
        });
    }

    public int duty(int t, int p, int hours) {
        return ask(() -> {
            needTraveller(t);
            needPlace(p);
            need(hours >= 0 && hours <= 99, 2);
            return dutyOf(t, later(t, hours), p, skill(told.places.get(p).nose));
        });
    }

    public int claim(int t, int hours) {
        return ask(() -> {
            needTraveller(t);
            need(hours >= 0 && hours <= 99, 2);
            int[] sums = new int[told.lands.size()];
            for (int s = 0; s < told.smells.size(); s++) {
                if (!told.smells.get(s).kind.equals("burnt")) {
                    sums[told.smells.get(s).land] += left(later(t, hours), s);
                }
            }
            int most = Arrays.stream(sums).max().orElse(0);
            int[] lands = java.util.stream.IntStream.range(0, sums.length).filter(l -> sums[l] == most).toArray();
            return most == 0 || lands.length != 1 ? -2 : lands[0];
        });
    }

    public int gone(int t, int s) {
        return ask(() -> {
            needTraveller(t);
            needSmell(s);
            for (int hours = 0; hours <= 200; hours++) {
                if (later(t, hours).get(s) / 2 == 0) {
                    return hours;
                }
            }
            throw new AssertionError();
        });
    }

    public int mustWait(int t, int p) {
        return ask(() -> {
            needTraveller(t);
            needPlace(p);
            for (int hours = 0; hours <= 200; hours++) {
                if (dutyOf(t, later(t, hours), p, skill(told.places.get(p).nose)) == 0) {
                    return hours;
                }
            }
            throw new AssertionError();
        });
    }

    public int walked(int t) {
        return ask(() -> {
            needTraveller(t);
            need(told.walks.containsKey(t), 6);
            List<Integer> duties = walkDuties(t, nosesTold());
            return duties == null ? -2 : sum(duties);
        });
    }

    public int walkedAt(int t, int i) {
        return ask(() -> {
            needTraveller(t);
            need(told.walks.containsKey(t), 6);
            need(i >= 0 && i < told.walks.get(t).size(), 1);
            List<Integer> duties = walkDuties(t, nosesTold());
            need(duties != null, 5);
            return duties.get(i);
        });
    }

    public int judge() {
        return ask(() -> {
            need(told != null, 1);
            for (int t = 0; t < now.size(); t++) {
                if (told.walks.containsKey(t) && walkDuties(t, nosesTold()) == null) {
                    return t;
                }
            }
            return -2;
        });
    }

    public int wrongly() {
        return ask(() -> {
            need(told != null, 1);
            for (Asked asked : told.asked) {
                List<Integer> duties = told.walks.containsKey(asked.traveller)
                        ? walkDuties(asked.traveller, nosesTold()) : null;
                if (duties == null || sum(duties) != asked.whole) {
                    return told.asked.indexOf(asked);
                }
            }
            return -2;
        });
    }

    public int quickest(int t, int to) {
        return ask(() -> {
            needTraveller(t);
            needPlace(to);
            List<Integer> way = best(0, t, to);
            return way == null ? -2 : hoursOf(way);
        });
    }

    public int cheapest(int t, int to) {
        return ask(() -> {
            needTraveller(t);
            needPlace(to);
            List<Integer> way = best(1, t, to);
            return way == null ? -2 : dutyAlong(t, now.get(t).halves, way);
        });
    }

    public int secret(int t, int to) {
        return ask(() -> {
            needTraveller(t);
            needPlace(to);
            List<Integer> way = best(2, t, to);
            return way == null ? -2 : hoursOf(way);
        });
    }

    public int wayAt(int kind, int t, int to, int i) {
        return ask(() -> {
            need(kind >= 0 && kind <= 2, 1);
            needTraveller(t);
            needPlace(to);
            List<Integer> way = best(kind, t, to);
            need(way != null && i >= 0 && i < way.size(), 1);
            return way.get(i);
        });
    }

    public int rounds() {
        return ask(() -> {
            need(told != null, 1);
            int count = 0;
            for (int t = 0; t < now.size(); t++) {
                for (int to = 0; to < told.places.size(); to++) {
                    List<Integer> quick = best(0, t, to);
                    Map<Integer, Integer> halves = now.get(t).halves;
                    if (quick != null && dutyAlong(t, halves, best(1, t, to)) < dutyAlong(t, halves, quick)) {
                        count++;
                    }
                }
            }
            return count;
        });
    }

    public int cover(int t, int s, int to) {
        return ask(() -> {
            needTraveller(t);
            needSmell(s);
            needPlace(to);
            need(told.smells.get(s).kind.equals("cover"), 1);
            List<Integer> way = best(0, t, to);
            for (int strength = 0; way != null && strength <= 99; strength++) {
                Map<Integer, Integer> halves = new HashMap<>(now.get(t).halves);
                halves.put(s, 2 * strength);
                if (dutyAlong(t, halves, way) == 0) {
                    return strength;
                }
            }
            return -2;
        });
    }

    public int been() {
        return ask(() -> traces().size());
    }

    public int could() {
        return ask(() -> traces().stream().mapToInt(this::bits).reduce(0, (a, b) -> a | b));
    }

    public int surely() {
        return ask(() -> {
            List<List<Integer>> rows = traces();
            return rows.isEmpty() ? 0 : rows.stream().mapToInt(this::bits).reduce(-1, (a, b) -> a & b);
        });
    }

    public int beenAt(int i) {
        return ask(() -> {
            List<List<Integer>> rows = traces();
            need(i >= 0 && i <= 3, 1);
            rows.sort(Comparator.comparing((List<Integer> row) -> row.size()).thenComparing(Object::toString));
            return rows.isEmpty() || i >= rows.get(0).size() ? -2 : rows.get(0).get(i);
        });
    }

    public int posts() {
        return ask(() -> {
            need(told != null, 1);
            return walksTogether(bestPosts());
        });
    }

    public int postOf(int p) {
        return ask(() -> {
            needPlace(p);
            return bestPosts().get(p);
        });
    }

    public int rests(int t, int to) {
        return ask(() -> allRests(t, to).size());
    }

    public int rest(int t, int to) {
        return ask(() -> {
            List<Integer> rests = allRests(t, to);
            return rests.isEmpty() ? -2 : rests.get(0);
        });
    }

    public int winds(int t, int seed, int hours) {
        return ask(() -> {
            needTraveller(t);
            need(seed >= 0 && seed <= 65536 && hours >= 0 && hours <= 99, 2);
            return windy(t, seed, hours).values().stream().mapToInt(halves -> halves / 2).sum();
        });
    }

    public int windDuty(int t, int p, int seed, int hours) {
        return ask(() -> {
            needTraveller(t);
            needPlace(p);
            need(seed >= 0 && seed <= 65536 && hours >= 0 && hours <= 99, 2);
            return dutyOf(t, windy(t, seed, hours), p, skill(told.places.get(p).nose));
        });
    }

    public int waits(int t, int hours) {
        return ask(() -> {
            needTraveller(t);
            need(hours >= 1 && hours <= 99, 2);
            keep();
            State he = now.get(t);
            now.set(t, new State(he.place, he.paid, he.hours + hours, later(t, hours)));
            return he.hours + hours;
        });
    }

    public int go(int t, int p) {
        return ask(() -> {
            needTraveller(t);
            needPlace(p);
            State he = now.get(t);
            Integer hours = told.paths.get(List.of(he.place, p));
            need(hours != null, 5);
            keep();
            Map<Integer, Integer> halves = later(t, hours);
            int duty = dutyOf(t, halves, p, skill(told.places.get(p).nose));
            now.set(t, new State(p, he.paid + duty, he.hours + hours, halves));
            return duty;
        });
    }

    public boolean spray(int t, int s, int strength) {
        return ask(() -> {
            needTraveller(t);
            needSmell(s);
            need(strength >= 0 && strength <= 99, 2);
            need(now.get(t).halves.get(s) != 2 * strength, 5);
            keep();
            now.get(t).halves.put(s, 2 * strength);
            return 1;
        }) == 1;
    }

    public boolean wash(int t) {
        return ask(() -> {
            needTraveller(t);
            need(now.get(t).halves.values().stream().anyMatch(halves -> halves > 0), 5);
            keep();
            now.get(t).halves.replaceAll((s, halves) -> halves / 2);
            return 1;
        }) == 1;
    }

    public boolean undo() {
        return ask(() -> {
            need(!earlier.isEmpty(), 6);
            now = earlier.removeLast();
            return 1;
        }) == 1;
    }

    public int mark() {
        return ask(() -> {
            need(told != null, 1);
            need(marks.size() < 3, 3);
            marks.add(copyOf(now));
            return marks.size() - 1;
        });
    }

    public boolean back(int mark) {
        return ask(() -> {
            need(mark >= 0 && mark < marks.size(), 1);
            now = copyOf(marks.get(mark));
            earlier.clear();
            return 1;
        }) == 1;
    }

    public int led(int i) {
        List<Integer> all = new ArrayList<>();
        for (int t = 0; t < now.size(); t++) {
            int p = now.get(t).place;
            if (dutyOf(t, now.get(t).halves, p, skill(told.places.get(p).nose)) > 0) {
                all.add(t);
            }
        }
        if (i < 0 || i >= all.size()) {
            throw new NoSuchElementException();
        }
        return all.get(i);
    }

    public int size(int what) {
        if (what == 13) {
            return tape.length();
        }
        if (what < 0 || what > 13) {
            return -1;
        }
        if (told == null) {
            return 0;
        }
        return new int[] {told.wind, told.lands.size(), told.smells.size(), told.noses.size(), told.places.size(),
            told.paths.size() / 2, told.leaves.size(), told.travellers.size(), told.walks.size(), told.asked.size(),
            told.whiffs.size(), earlier.size(), marks.size()}[what];
    }

    public int trouble() {
        return trouble;
    }

    private int ask(Asking asking) {
        try {
            int answer = asking.get();
            trouble = 0;
            return answer;
        } catch (Refusal refusal) {
            trouble = refusal.why;
            return -1;
        }
    }

    private static void need(boolean so, int why) {
        if (!so) {
            throw new Refusal(why);
        }
    }

    private void needTraveller(int t) {
        need(told != null && t >= 0 && t < told.travellers.size(), 1);
    }

    private void needSmell(int s) {
        need(told != null && s >= 0 && s < told.smells.size(), 1);
    }

    private void needPlace(int p) {
        need(told != null && p >= 0 && p < told.places.size(), 1);
    }

    private static int pick(int what, int... answers) {
        need(what >= 0 && what < answers.length, 1);
        return answers[what];
    }

    private String sort(int t) {
        return told.travellers.get(t).sort;
    }

    private int skill(int nose) {
        return nose < 0 ? 1000 : told.noses.get(nose);
    }

    private static int sum(List<Integer> numbers) {
        return numbers.stream().mapToInt(Integer::intValue).sum();
    }

    private static List<State> copyOf(List<State> states) {
        List<State> copy = new ArrayList<>();
        states.forEach(state -> copy.add(state.copy()));
        return copy;
    }

    private void keep() {
        earlier.addLast(copyOf(now));
        if (earlier.size() > 16) {
            earlier.removeFirst();
        }
    }

    private void hour(Map<Integer, Integer> halves, int more) {
        for (int s = 0; s < told.smells.size(); s++) {
            String kind = told.smells.get(s).kind;
            int takes = kind.equals("heavy") || kind.equals("incense") ? 1 : kind.equals("burnt") ? 4 : 2;
            halves.put(s, Math.max(0, halves.get(s) - takes - more));
        }
    }

    private Map<Integer, Integer> faded(Map<Integer, Integer> from, int hours) {
        Map<Integer, Integer> halves = new HashMap<>(from);
        for (int i = 0; i < hours; i++) {
            hour(halves, 0);
        }
        return halves;
    }

    private Map<Integer, Integer> later(int t, int hours) {
        return faded(now.get(t).halves, hours);
    }

    private Map<Integer, Integer> windy(int t, int seed, int hours) {
        Map<Integer, Integer> halves = new HashMap<>(now.get(t).halves);
        long draw = seed;
        for (int i = 0; i < hours; i++) {
            draw = (75 * draw + 74) % 65537;
            hour(halves, (int) (draw % told.wind));
        }
        return halves;
    }

    private int left(Map<Integer, Integer> halves, int s) {
        int strength = halves.get(s) / 2;
        if (told.smells.get(s).kind.equals("cover")) {
            return strength;
        }
        int greatest = 0;
        for (int c = 0; c < told.smells.size(); c++) {
            if (told.smells.get(c).kind.equals("cover")) {
                greatest = Math.max(greatest, halves.get(c) / 2);
            }
        }
        return Math.max(0, strength - greatest / 2);
    }

    private int dutyOf(int t, Map<Integer, Integer> halves, int p, int skill) {
        int sum = 0;
        for (int s = 0; s < told.smells.size(); s++) {
            Smell smell = told.smells.get(s);
            boolean free = smell.kind.equals("burnt") || smell.kind.equals("incense");
            if (left(halves, s) >= skill && smell.land != told.places.get(p).land && !free) {
                sum += left(halves, s) * told.lands.get(smell.land);
            }
        }
        return switch (sort(t)) {
            case "soldier" -> 2 * sum;
            case "bride" -> sum / 2;
            case "child" -> 0;
            default -> sum;
        };
    }

    private List<Integer> nosesTold() {
        return new ArrayList<>(told.places.stream().map(place -> place.nose).toList());
    }

    /** DUTY stop by stop of a traveller's WALK; null if it can't be. */
    private List<Integer> walkDuties(int t, List<Integer> noses) {
        List<Integer> row = new ArrayList<>(List.of(now.get(t).place));
        row.addAll(told.walks.get(t));
        List<Integer> duties = new ArrayList<>();
        Map<Integer, Integer> halves = now.get(t).halves;
        for (int i = 1; i < row.size(); i++) {
            Integer hours = told.paths.get(List.of(row.get(i - 1), row.get(i)));
            if (hours == null) {
                return null;
            }
            halves = faded(halves, hours);
            duties.add(dutyOf(t, halves, row.get(i), skill(noses.get(row.get(i)))));
        }
        return duties;
    }

    /** All rows of unlike places along paths that begin with a row, in the order of places' numbers. */
    private List<List<Integer>> rowsFrom(List<Integer> row) {
        List<List<Integer>> rows = new ArrayList<>(List.of(row));
        for (int p = 0; p < told.places.size(); p++) {
            if (!row.contains(p) && told.paths.containsKey(List.of(row.get(row.size() - 1), p))) {
                List<Integer> longer = new ArrayList<>(row);
                longer.add(p);
                rows.addAll(rowsFrom(longer));
            }
        }
        return rows;
    }

    private List<List<Integer>> waysTo(int t, int to) {
        List<List<Integer>> rows = new ArrayList<>(rowsFrom(List.of(now.get(t).place)));
        rows.removeIf(row -> row.get(row.size() - 1) != to);
        rows.sort(Comparator.comparing(Object::toString));
        return rows;
    }

    private int hoursOf(List<Integer> way) {
        int hours = 0;
        for (int i = 1; i < way.size(); i++) {
            hours += told.paths.get(way.subList(i - 1, i + 1));
        }
        return hours;
    }

    private int dutyAlong(int t, Map<Integer, Integer> halves, List<Integer> way) {
        int sum = 0;
        for (int i = 1; i < way.size(); i++) {
            int p = way.get(i);
            sum += dutyOf(t, faded(halves, hoursOf(way.subList(0, i + 1))), p, skill(told.places.get(p).nose));
        }
        return sum;
    }

    private List<Integer> best(int kind, int t, int to) {
        List<List<Integer>> all = waysTo(t, to);
        Map<Integer, Integer> halves = now.get(t).halves;
        if (kind == 2) {
            all.removeIf(way -> dutyAlong(t, halves, way) > 0);
        }
        Comparator<List<Integer>> byHours = Comparator.comparing(this::hoursOf);
        Comparator<List<Integer>> byDuty = Comparator.comparing(way -> dutyAlong(t, halves, way));
        all.sort(kind == 1 ? byDuty.thenComparing(byHours) : byHours);
        return all.isEmpty() ? null : all.get(0);
    }

    private int bits(List<Integer> row) {
        return row.stream().mapToInt(p -> 1 << p).sum();
    }

    private List<List<Integer>> traces() {
        need(told != null, 1);
        need(!told.whiffs.isEmpty(), 6);
        List<List<Integer>> rows = new ArrayList<>();
        for (int p = 0; p < told.places.size(); p++) {
            rows.addAll(rowsFrom(List.of(p)));
        }
        rows.removeIf(row -> row.size() > 4 || !smellsAsWhiffed(row));
        return rows;
    }

    private boolean smellsAsWhiffed(List<Integer> row) {
        Map<Integer, Integer> halves = new HashMap<>();
        for (int s = 0; s < told.smells.size(); s++) {
            halves.put(s, 0);
        }
        for (int i = 0; i < row.size(); i++) {
            if (i > 0) {
                halves = faded(halves, told.paths.get(row.subList(i - 1, i + 1)));
            }
            for (int s = 0; s < told.smells.size(); s++) {
                halves.put(s, Math.max(halves.get(s), 2 * told.leaves.getOrDefault(List.of(row.get(i), s), 0)));
            }
        }
        Map<Integer, Integer> last = halves;
        return told.whiffs.entrySet().stream().allMatch(whiff -> last.get(whiff.getKey()) / 2 == whiff.getValue());
    }

    private int walksTogether(List<Integer> noses) {
        int sum = 0;
        for (int t : told.walks.keySet()) {
            List<Integer> duties = walkDuties(t, noses);
            sum += duties == null ? 0 : sum(duties);
        }
        return sum;
    }

    /** Every number written in so many digits as there are places with a nose is looked at as a row of noses. */
    private List<Integer> bestPosts() {
        List<Integer> posted = new ArrayList<>();
        for (int p = 0; p < told.places.size(); p++) {
            if (told.places.get(p).nose >= 0 && posted.size() < told.noses.size()) {
                posted.add(p);
            }
        }
        List<Integer> best = null;
        int count = (int) Math.pow(Math.max(1, told.noses.size()), posted.size());
        for (int number = 0; number < count; number++) {
            List<Integer> noses = new ArrayList<>(told.places.stream().map(place -> -2).toList());
            int rest = number;
            for (int i = posted.size() - 1; i >= 0; i--) {
                noses.set(posted.get(i), rest % told.noses.size());
                rest /= told.noses.size();
            }
            boolean unlike = noses.stream().filter(nose -> nose >= 0).distinct().count() == posted.size();
            if (unlike && (best == null || walksTogether(noses) > walksTogether(best))) {
                best = noses;
            }
        }
        return best;
    }

    private List<Integer> allRests(int t, int to) {
        needTraveller(t);
        needPlace(to);
        List<List<Integer>> all = waysTo(t, to);
        need(!all.isEmpty() && told.places.size() > 1, 6);
        List<Integer> rests = new ArrayList<>();
        for (List<Integer> way : all) {
            for (int p = 0; p < told.places.size(); p++) {
                int at = p;
                int pays = pays(t, way, p);
                boolean least = all.stream().allMatch(other -> pays(t, other, at) >= pays);
                boolean most = true;
                for (int q = 0; q < told.places.size(); q++) {
                    most &= q == now.get(t).place || pays(t, way, q) <= pays;
                }
                if (p != now.get(t).place && least && most) {
                    rests.add(pays);
                }
            }
        }
        return rests;
    }

    private int pays(int t, List<Integer> way, int p) {
        int i = way.indexOf(p);
        return i <= 0 ? 0 : dutyOf(t, later(t, hoursOf(way.subList(0, i + 1))), p, 1);
    }
}
