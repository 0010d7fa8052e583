import java.util.NoSuchElementException;

/** A customs house for smells; the document's promises 1 to 46 say what each call does. */
public final class SmellCustoms {
    public static final int NONE = -1;

    /** The answer of calls that are not refused where there is no such thing. */
    private static final int NOTHING = -2;

    private static final int FINE = 0;
    private static final int NO_SUCH = 1;
    private static final int BAD_NUMBER = 2;
    private static final int NO_ROOM = 3;
    private static final int FAULTY = 4;
    private static final int NOT_SO = 5;
    private static final int EMPTY = 6;

    /** The sorts of LINES; up to WHIFFS they are the numbers of size(), too. */
    private static final int WIND = 0;
    private static final int LANDS = 1;
    private static final int SMELLS = 2;
    private static final int NOSES = 3;
    private static final int PLACES = 4;
    private static final int PATHS = 5;
    private static final int LEAVES = 6;
    private static final int TRAVELLERS = 7;
    private static final int WALKS = 8;
    private static final int ASKED = 9;
    private static final int WHIFFS = 10;
    private static final int ONS = 11;
    private static final int SORTS = 12;

    private static final int SIZE_UNDO = 11;
    private static final int SIZE_MARKS = 12;
    private static final int SIZE_TAPE = 13;

    private static final int MOST_LANDS = 4;
    private static final int MOST_SMELLS = 6;
    private static final int MOST_NOSES = 4;
    private static final int MOST_PLACES = 6;
    private static final int MOST_TRAVELLERS = 4;
    private static final int MOST_ASKED = 4;
    private static final int MOST_STOPS = 5;

    private static final int TAPE = 1100;
    private static final int FED = 20;
    private static final int MOST_HOURS = 99;
    private static final int MOST_STRENGTH = 99;
    private static final int LONGEST_WAIT = 200;

    private static final int KIND_COVER = 2;
    private static final int KIND_BURNT = 3;
    private static final int KIND_INCENSE = 4;
    private static final int SORT_SOLDIER = 1;
    private static final int SORT_BRIDE = 2;
    private static final int SORT_CHILD = 3;

    private static final int QUICKEST = 0;
    private static final int CHEAPEST = 1;
    private static final int SECRET = 2;

    private final int[] tape = new int[TAPE];
    private int taped;
    private final Border told = new Border();
    private final Teller teller = new Teller(tape);
    private final Air air = new Air(told);
    private final Acts acts = new Acts(told);
    private final Walks walks = new Walks(told, air, acts);
    private final Ways ways = new Ways(told, air);
    private final Trace trace = new Trace(told, air);
    private final Posting posting = new Posting(told, walks);
    private final Game game = new Game(told, air, ways);
    private final int[] trial = new int[MOST_SMELLS];
    private int trouble;
    private int fault;
    private int faultAt = NONE;

    public SmellCustoms() {
    }

    // ---- the border

    public int feed(int a, int b, int c, int d, int e) {
        if (taped + FED > TAPE) {
            return NONE;
        }
        lay(a);
        lay(b);
        lay(c);
        lay(d);
        lay(e);
        return taped;
    }

    public int border(int n) {
        if (n < 0 || n > taped) {
            return refuse(BAD_NUMBER);
        }
        taped = 0;
        boolean good = teller.read(n);
        fault = teller.fault;
        faultAt = teller.faultAt;
        if (!good) {
            return refuse(FAULTY);
        }
        told.copy(teller.draft);
        acts.begin();
        return answer(told.sizes[PLACES]);
    }

    public int fault() {
        return fault;
    }

    public int where() {
        return trouble == FAULTY ? faultAt : NONE;
    }

    // ---- now

    public int smell(int s, int what) {
        if (!isOne(SMELLS, s) || what < 0 || what > 2) {
            return refuse(NO_SUCH);
        }
        if (what == 0) {
            return answer(told.smellKind[s]);
        }
        int land = told.smellLand[s];
        return answer(what == 1 ? land : told.landDuty[land]);
    }

    public int place(int p, int what) {
        if (!isOne(PLACES, p) || what < 0 || what > 2) {
            return refuse(NO_SUCH);
        }
        if (what == 0) {
            return answer(told.placeLand[p]);
        }
        return answer(what == 1 ? told.placeNose[p] : told.pathsOf(p));
    }

    public int traveller(int t, int what) {
        if (!isOne(TRAVELLERS, t) || what < 0 || what > 4) {
            return refuse(NO_SUCH);
        }
        Person he = acts.now[t];
        switch (what) {
            case 0:
                return answer(told.sort[t]);
            case 1:
                return answer(told.home[t]);
            case 2:
                return answer(he.place);
            case 3:
                return answer(he.paid);
            default:
                return answer(he.hours);
        }
    }

    public int path(int p, int q) {
        if (!isOne(PLACES, p) || !isOne(PLACES, q) || p == q) {
            return refuse(NO_SUCH);
        }
        int hours = told.hours[p][q];
        return answer(hours == 0 ? NOTHING : hours);
    }

    // ---- behind so many hours from NOW

    public int strength(int t, int s, int hours) {
        int why = whyNotBehind(t, SMELLS, s, hours);
        if (why != FINE) {
            return refuse(why);
        }
        air.take(acts.now[t].halves, hours, 0);
        return answer(air.strong[s]);
    }

    public int covered(int t, int s, int hours) {
        int why = whyNotBehind(t, SMELLS, s, hours);
        if (why != FINE) {
            return refuse(why);
        }
        air.take(acts.now[t].halves, hours, 0);
        return answer(air.uncovered(s));
    }

    public int smelt(int t, int nose, int hours) {
        int why = whyNotBehind(t, NOSES, nose, hours);
        if (why != FINE) {
            return refuse(why);
        }
        air.take(acts.now[t].halves, hours, 0);
        return answer(air.smeltBy(told.noseSkill[nose]));
    }

    public int duty(int t, int p, int hours) {
        int why = whyNotBehind(t, PLACES, p, hours);
        if (why != FINE) {
            return refuse(why);
        }
        return answer(dutyBehind(t, p, hours));
    }

    public int claim(int t, int hours) {
        if (!isOne(TRAVELLERS, t)) {
            return refuse(NO_SUCH);
        }
        if (!isWithin(hours, 0, MOST_HOURS)) {
            return refuse(BAD_NUMBER);
        }
        air.take(acts.now[t].halves, hours, 0);
        return answer(air.claimant());
    }

    public int gone(int t, int s) {
        if (!isOne(TRAVELLERS, t) || !isOne(SMELLS, s)) {
            return refuse(NO_SUCH);
        }
        int hours = 0;
        air.take(acts.now[t].halves, hours, 0);
        while (hours < LONGEST_WAIT && air.strong[s] > 0) {
            hours++;
            air.take(acts.now[t].halves, hours, 0);
        }
        return answer(hours);
    }

    public int mustWait(int t, int p) {
        if (!isOne(TRAVELLERS, t) || !isOne(PLACES, p)) {
            return refuse(NO_SUCH);
        }
        int hours = 0;
        while (hours < LONGEST_WAIT && dutyBehind(t, p, hours) > 0) {
            hours++;
        }
        return answer(hours);
    }

    // ---- walks

    public int walked(int t) {
        if (!isOne(TRAVELLERS, t)) {
            return refuse(NO_SUCH);
        }
        if (told.walkLength[t] == 0) {
            return refuse(EMPTY);
        }
        return answer(walks.follow(t, told.placeNose) ? walks.total : NOTHING);
    }

    public int walkedAt(int t, int i) {
        if (!isOne(TRAVELLERS, t)) {
            return refuse(NO_SUCH);
        }
        if (told.walkLength[t] == 0) {
            return refuse(EMPTY);
        }
        if (i < 0 || i >= told.walkLength[t]) {
            return refuse(NO_SUCH);
        }
        if (!walks.follow(t, told.placeNose)) {
            return refuse(NOT_SO);
        }
        return answer(walks.askedAt[i]);
    }

    public int judge() {
        if (!told.stands()) {
            return refuse(NO_SUCH);
        }
        for (int t = 0; t < told.sizes[TRAVELLERS]; t++) {
            if (told.walkLength[t] > 0 && !walks.follow(t, told.placeNose)) {
                return answer(t);
            }
        }
        return answer(NOTHING);
    }

    public int wrongly() {
        if (!told.stands()) {
            return refuse(NO_SUCH);
        }
        for (int i = 0; i < told.sizes[ASKED]; i++) {
            int t = told.askedOf[i];
            boolean right = told.walkLength[t] > 0 && walks.follow(t, told.placeNose)
                    && walks.total == told.askedWhole[i];
            if (!right) {
                return answer(i);
            }
        }
        return answer(NOTHING);
    }

    // ---- ways

    public int quickest(int t, int to) {
        if (!isOne(TRAVELLERS, t) || !isOne(PLACES, to)) {
            return refuse(NO_SUCH);
        }
        int way = wayOf(QUICKEST, t, to);
        return answer(way == NONE ? NOTHING : ways.hoursOf(way));
    }

    public int cheapest(int t, int to) {
        if (!isOne(TRAVELLERS, t) || !isOne(PLACES, to)) {
            return refuse(NO_SUCH);
        }
        int way = wayOf(CHEAPEST, t, to);
        return answer(way == NONE ? NOTHING : ways.duties[way]);
    }

    public int secret(int t, int to) {
        if (!isOne(TRAVELLERS, t) || !isOne(PLACES, to)) {
            return refuse(NO_SUCH);
        }
        int way = wayOf(SECRET, t, to);
        return answer(way == NONE ? NOTHING : ways.hoursOf(way));
    }

    public int wayAt(int kind, int t, int to, int i) {
        if (!isWithin(kind, QUICKEST, SECRET) || !isOne(TRAVELLERS, t) || !isOne(PLACES, to)) {
            return refuse(NO_SUCH);
        }
        int way = wayOf(kind, t, to);
        if (way == NONE || i < 0 || i >= ways.lengths[way]) {
            return refuse(NO_SUCH);
        }
        return answer(ways.stops[way][i]);
    }

    public int rounds() {
        if (!told.stands()) {
            return refuse(NO_SUCH);
        }
        int count = 0;
        for (int t = 0; t < told.sizes[TRAVELLERS]; t++) {
            for (int to = 0; to < told.sizes[PLACES]; to++) {
                if (isRound(t, to)) {
                    count++;
                }
            }
        }
        return answer(count);
    }

    public int cover(int t, int s, int to) {
        if (!isOne(TRAVELLERS, t) || !isOne(SMELLS, s) || !isOne(PLACES, to)
                || told.smellKind[s] != KIND_COVER) {
            return refuse(NO_SUCH);
        }
        int way = wayOf(QUICKEST, t, to);
        return answer(way == NONE ? NOTHING : leastCover(t, s, way));
    }

    // ---- where it has been

    public int been() {
        int why = whyNoTrace();
        if (why != FINE) {
            return refuse(why);
        }
        trace.search();
        return answer(trace.rows);
    }

    public int could() {
        int why = whyNoTrace();
        if (why != FINE) {
            return refuse(why);
        }
        trace.search();
        return answer(trace.inSome);
    }

    public int surely() {
        int why = whyNoTrace();
        if (why != FINE) {
            return refuse(why);
        }
        trace.search();
        return answer(trace.rows == 0 ? 0 : trace.inAll);
    }

    public int beenAt(int i) {
        int why = whyNoTrace();
        if (why != FINE) {
            return refuse(why);
        }
        if (!isWithin(i, 0, Trace.LONGEST - 1)) {
            return refuse(NO_SUCH);
        }
        trace.search();
        return answer(i < trace.firstLength ? trace.first[i] : NOTHING);
    }

    // ---- posts, a game

    public int posts() {
        if (!told.stands()) {
            return refuse(NO_SUCH);
        }
        posting.search();
        return answer(posting.most);
    }

    public int postOf(int p) {
        if (!isOne(PLACES, p)) {
            return refuse(NO_SUCH);
        }
        posting.search();
        return answer(posting.best[p]);
    }

    public int rests(int t, int to) {
        int why = whyNoGame(t, to);
        if (why != FINE) {
            return refuse(why);
        }
        return answer(game.rests);
    }

    public int rest(int t, int to) {
        int why = whyNoGame(t, to);
        if (why != FINE) {
            return refuse(why);
        }
        return answer(game.rests == 0 ? NOTHING : game.firstDuty);
    }

    // ---- winds

    public int winds(int t, int seed, int hours) {
        if (!isOne(TRAVELLERS, t)) {
            return refuse(NO_SUCH);
        }
        if (!isWithin(seed, 0, Air.SEEDS - 1) || !isWithin(hours, 0, MOST_HOURS)) {
            return refuse(BAD_NUMBER);
        }
        air.take(acts.now[t].halves, hours, air.blown(seed, hours));
        return answer(air.together());
    }

    public int windDuty(int t, int p, int seed, int hours) {
        if (!isOne(TRAVELLERS, t) || !isOne(PLACES, p)) {
            return refuse(NO_SUCH);
        }
        if (!isWithin(seed, 0, Air.SEEDS - 1) || !isWithin(hours, 0, MOST_HOURS)) {
            return refuse(BAD_NUMBER);
        }
        air.take(acts.now[t].halves, hours, air.blown(seed, hours));
        return answer(air.toll(told.sort[t], p, told.skillAt(p, told.placeNose)));
    }

    // ---- acts

    public int waits(int t, int hours) {
        if (!isOne(TRAVELLERS, t)) {
            return refuse(NO_SUCH);
        }
        if (!isWithin(hours, 1, MOST_HOURS)) {
            return refuse(BAD_NUMBER);
        }
        acts.keep(t);
        pass(acts.now[t], hours);
        return answer(acts.now[t].hours);
    }

    public int go(int t, int p) {
        if (!isOne(TRAVELLERS, t) || !isOne(PLACES, p)) {
            return refuse(NO_SUCH);
        }
        Person he = acts.now[t];
        int hours = told.hours[he.place][p];
        if (hours == 0) {
            return refuse(NOT_SO);
        }
        acts.keep(t);
        pass(he, hours);
        he.place = p;
        int asked = dutyBehind(t, p, 0);
        he.paid += asked;
        return answer(asked);
    }

    public boolean spray(int t, int s, int strength) {
        if (!isOne(TRAVELLERS, t) || !isOne(SMELLS, s)) {
            return deny(NO_SUCH);
        }
        if (!isWithin(strength, 0, MOST_STRENGTH)) {
            return deny(BAD_NUMBER);
        }
        Person he = acts.now[t];
        if (he.halves[s] == 2 * strength) {
            return deny(NOT_SO);
        }
        acts.keep(t);
        he.halves[s] = 2 * strength;
        return agree();
    }

    public boolean wash(int t) {
        if (!isOne(TRAVELLERS, t)) {
            return deny(NO_SUCH);
        }
        Person he = acts.now[t];
        if (!he.hasSomethingOn()) {
            return deny(NOT_SO);
        }
        acts.keep(t);
        for (int s = 0; s < MOST_SMELLS; s++) {
            he.halves[s] = he.halves[s] / 2;
        }
        return agree();
    }

    public boolean undo() {
        if (!acts.takeBack()) {
            return deny(EMPTY);
        }
        return agree();
    }

    public int mark() {
        if (!told.stands()) {
            return refuse(NO_SUCH);
        }
        int number = acts.setMark();
        return number == NONE ? refuse(NO_ROOM) : answer(number);
    }

    public boolean back(int mark) {
        if (!acts.returnTo(mark)) {
            return deny(NO_SUCH);
        }
        return agree();
    }

    // ---- what is told

    public int led(int i) throws NoSuchElementException {
        int count = 0;
        for (int t = 0; t < told.sizes[TRAVELLERS]; t++) {
            if (dutyBehind(t, acts.now[t].place, 0) > 0) {
                if (count == i) {
                    return t;
                }
                count++;
            }
        }
        throw new NoSuchElementException();
    }

    public int size(int what) {
        if (isWithin(what, WIND, WHIFFS)) {
            return told.sizes[what];
        }
        switch (what) {
            case SIZE_UNDO:
                return acts.kept;
            case SIZE_MARKS:
                return acts.marks;
            case SIZE_TAPE:
                return taped;
            default:
                return NONE;
        }
    }

    public int trouble() {
        return trouble;
    }

    // ---- what the calls share

    private int answer(int value) {
        trouble = FINE;
        return value;
    }

    private int refuse(int why) {
        trouble = why;
        return NONE;
    }

    private boolean agree() {
        trouble = FINE;
        return true;
    }

    private boolean deny(int why) {
        trouble = why;
        return false;
    }

    private boolean isOne(int sort, int number) {
        return number >= 0 && number < told.sizes[sort];
    }

    private static boolean isWithin(int number, int low, int high) {
        return number >= low && number <= high;
    }

    /** The TROUBLE of asking for a traveller and one of a sort behind hours. */
    private int whyNotBehind(int t, int sort, int number, int hours) {
        if (!isOne(TRAVELLERS, t) || !isOne(sort, number)) {
            return NO_SUCH;
        }
        return isWithin(hours, 0, MOST_HOURS) ? FINE : BAD_NUMBER;
    }

    private void lay(int number) {
        for (int shift = 24; shift >= 0; shift -= 8) {
            if (taped < TAPE) {
                tape[taped] = number >>> shift & 255;
                taped++;
            }
        }
    }

    private int dutyBehind(int t, int p, int hours) {
        air.take(acts.now[t].halves, hours, 0);
        return air.toll(told.sort[t], p, told.skillAt(p, told.placeNose));
    }

    private int wayOf(int kind, int t, int to) {
        ways.list(acts.now[t], told.sort[t], to);
        return ways.pick(kind);
    }

    private boolean isRound(int t, int to) {
        ways.list(acts.now[t], told.sort[t], to);
        int quick = ways.pick(QUICKEST);
        int cheap = ways.pick(CHEAPEST);
        return quick != NONE && cheap != NONE && ways.duties[cheap] < ways.duties[quick];
    }

    private int leastCover(int t, int s, int way) {
        System.arraycopy(acts.now[t].halves, 0, trial, 0, MOST_SMELLS);
        for (int strong = 0; strong <= MOST_STRENGTH; strong++) {
            trial[s] = 2 * strong;
            if (ways.dutyAlong(way, trial, told.sort[t]) == 0) {
                return strong;
            }
        }
        return NOTHING;
    }

    private int whyNoTrace() {
        if (!told.stands()) {
            return NO_SUCH;
        }
        return told.sizes[WHIFFS] == 0 ? EMPTY : FINE;
    }

    private int whyNoGame(int t, int to) {
        if (!isOne(TRAVELLERS, t) || !isOne(PLACES, to)) {
            return NO_SUCH;
        }
        if (told.sizes[PLACES] < 2) {
            return EMPTY;
        }
        return game.play(acts.now[t], told.sort[t], to) ? FINE : EMPTY;
    }

    private void pass(Person he, int hours) {
        air.fade(he.halves, hours);
        he.hours += hours;
    }

    /** What a text tells, apart from what has been done since. */
    private static final class Border {
        final int[] sizes = new int[SORTS];
        final int[] landDuty = new int[MOST_LANDS];
        final int[] smellKind = new int[MOST_SMELLS];
        final int[] smellLand = new int[MOST_SMELLS];
        final int[] noseSkill = new int[MOST_NOSES];
        final int[] placeLand = new int[MOST_PLACES];
        final int[] placeNose = new int[MOST_PLACES];
        /** 0 where there is no path. */
        final int[][] hours = new int[MOST_PLACES][MOST_PLACES];
        /** HALVES by place and smell. */
        final int[][] leaves = new int[MOST_PLACES][MOST_SMELLS];
        final int[] sort = new int[MOST_TRAVELLERS];
        final int[] home = new int[MOST_TRAVELLERS];
        final int[] start = new int[MOST_TRAVELLERS];
        /** HALVES by traveller and smell. */
        final int[][] on = new int[MOST_TRAVELLERS][MOST_SMELLS];
        final int[] walkLength = new int[MOST_TRAVELLERS];
        final int[][] walk = new int[MOST_TRAVELLERS][MOST_STOPS];
        final int[] askedOf = new int[MOST_ASKED];
        final int[] askedWhole = new int[MOST_ASKED];
        /** NONE where no whiff is told. */
        final int[] whiff = new int[MOST_SMELLS];

        boolean stands() {
            return sizes[WIND] > 0;
        }

        int pathsOf(int p) {
            int count = 0;
            for (int q = 0; q < sizes[PLACES]; q++) {
                if (hours[p][q] > 0) {
                    count++;
                }
            }
            return count;
        }

        /** 0 where a place has no nose by these noses of places. */
        int skillAt(int p, int[] noses) {
            int nose = noses[p];
            return nose >= 0 && nose < MOST_NOSES ? noseSkill[nose] : 0;
        }

        /** Only what is looked at before a LINE tells it has to be made empty. */
        void clear() {
            for (int i = 0; i < SORTS; i++) {
                sizes[i] = 0;
            }
            for (int t = 0; t < MOST_TRAVELLERS; t++) {
                walkLength[t] = 0;
            }
            for (int s = 0; s < MOST_SMELLS; s++) {
                whiff[s] = NONE;
            }
            clearRows(hours);
            clearRows(leaves);
            clearRows(on);
        }

        void copy(Border other) {
            copyRow(other.sizes, sizes);
            copyRow(other.landDuty, landDuty);
            copyRow(other.smellKind, smellKind);
            copyRow(other.smellLand, smellLand);
            copyRow(other.noseSkill, noseSkill);
            copyRow(other.placeLand, placeLand);
            copyRow(other.placeNose, placeNose);
            copyRows(other.hours, hours);
            copyRows(other.leaves, leaves);
            copyRow(other.sort, sort);
            copyRow(other.home, home);
            copyRow(other.start, start);
            copyRows(other.on, on);
            copyRow(other.walkLength, walkLength);
            copyRows(other.walk, walk);
            copyRow(other.askedOf, askedOf);
            copyRow(other.askedWhole, askedWhole);
            copyRow(other.whiff, whiff);
        }

        private static void clearRows(int[][] rows) {
            for (int i = 0; i < rows.length; i++) {
                for (int j = 0; j < rows[i].length; j++) {
                    rows[i][j] = 0;
                }
            }
        }

        private static void copyRows(int[][] from, int[][] to) {
            for (int i = 0; i < from.length && i < to.length; i++) {
                copyRow(from[i], to[i]);
            }
        }

        private static void copyRow(int[] from, int[] to) {
            System.arraycopy(from, 0, to, 0, Math.min(from.length, to.length));
        }
    }

    /** Reads TOKENS from the tape, one at a time. */
    private static final class Tokens {
        static final int END = 0;
        static final int WORD = 1;
        static final int WHOLE = 2;
        static final int SEMICOLON = 3;
        static final int COMMA = 4;
        static final int WRONG = 5;

        /** A letter is 1 to 26, so nine of them are one number, unlike that of any other WORD. */
        private static final int LETTER_BITS = 5;
        private static final int LONGEST_WORD = 9;
        private static final int LONGEST_WHOLE = 2;

        private final int[] tape;
        private int end;
        private int after;
        int kind;
        int at;
        /** Of a WHOLE its number; of a WORD its letters' bits. */
        long value;

        Tokens(int[] tape) {
            this.tape = tape;
        }

        void begin(int length) {
            end = Math.max(0, Math.min(length, tape.length));
            after = 0;
            next();
        }

        void next() {
            at = after;
            while (at < end && tape[at] == ' ') {
                at++;
            }
            after = at;
            value = 0;
            while (after < end && tape[after] >= 'a' && tape[after] <= 'z') {
                value = value << LETTER_BITS | tape[after] - 'a' + 1;
                after++;
            }
            int letters = after - at;
            while (letters == 0 && after < end && tape[after] >= '0' && tape[after] <= '9') {
                value = value * 10 + tape[after] - '0';
                after++;
            }
            int digits = after - at - letters;
            if (letters > 0) {
                kind = letters <= LONGEST_WORD ? WORD : WRONG;
            } else if (digits > 0) {
                kind = digits <= LONGEST_WHOLE ? WHOLE : WRONG;
            } else if (at >= end) {
                kind = END;
            } else {
                kind = tape[at] == ';' ? SEMICOLON : tape[at] == ',' ? COMMA : WRONG;
                after = at + 1;
            }
        }

        /** The number of this WORD in a list of words with a blank between two; NONE. */
        int wordIn(String list) {
            if (kind != WORD) {
                return NONE;
            }
            int number = 0;
            long word = 0;
            for (int i = 0; i < list.length(); i++) {
                char sign = list.charAt(i);
                if (sign != ' ') {
                    word = word << LETTER_BITS | sign - 'a' + 1;
                } else if (word == value) {
                    return number;
                } else {
                    number++;
                    word = 0;
                }
            }
            return word == value ? number : NONE;
        }
    }

    /** Makes a BORDER of a text, or finds its first FAULT. */
    private static final class Teller {
        private static final int FORM = 1;
        private static final int UNKNOWN = 2;
        private static final int AGAIN = 3;
        private static final int BOUNDS = 4;
        private static final int MANY = 5;
        private static final int LACKS = 6;

        private static final int MOST_NAMES =
                MOST_LANDS + MOST_SMELLS + MOST_NOSES + MOST_PLACES + MOST_TRAVELLERS;

        /** In the order of the sorts of LINES, and "in", with which no LINE begins. */
        private static final String RESERVED =
                "border land smell nose place path leaves traveller walk asked whiff on in";
        private static final String KINDS = "plain heavy cover burnt incense";
        private static final String PEOPLE = "simple soldier bride child";

        /** By sorts of LINES; walks and whiffs have no bound but that each is told once. */
        private static final int[] ROOM = {1, 4, 6, 4, 6, 10, 8, 4, 99, 4, 99, 12};

        final Border draft = new Border();
        int fault;
        int faultAt;
        private final Tokens tokens;
        private final long[] names = new long[MOST_NAMES];
        private final int[] nameSorts = new int[MOST_NAMES];
        private final int[] nameNumbers = new int[MOST_NAMES];
        private int named;
        /** The number that the latest TOKEN taken stands for, and its place. */
        private int found;
        private int foundAt;

        Teller(int[] tape) {
            tokens = new Tokens(tape);
        }

        boolean read(int length) {
            draft.clear();
            named = 0;
            fault = 0;
            faultAt = NONE;
            tokens.begin(length);
            boolean more = true;
            for (int lines = 0; more && lines <= length; lines++) {
                if (!readLine()) {
                    return false;
                }
                more = tokens.kind == Tokens.SEMICOLON;
                if (more) {
                    tokens.next();
                }
            }
            if (tokens.kind != Tokens.END) {
                return wrong(FORM, tokens.at);
            }
            if (draft.sizes[LANDS] == 0 || draft.sizes[PLACES] == 0) {
                return wrong(LACKS, tokens.at);
            }
            return true;
        }

        private boolean readLine() {
            int sort = tokens.wordIn(RESERVED);
            if (sort < 0 || sort >= SORTS) {
                return wrong(FORM, tokens.at);
            }
            if (sort == WIND && draft.stands()) {
                return wrong(AGAIN, tokens.at);
            }
            if (sort != WIND && !draft.stands()) {
                return wrong(LACKS, tokens.at);
            }
            if (draft.sizes[sort] >= ROOM[sort]) {
                return wrong(MANY, tokens.at);
            }
            tokens.next();
            switch (sort) {
                case WIND:
                    return readWind();
                case LANDS:
                    return readLand();
                case SMELLS:
                    return readSmell();
                case NOSES:
                    return readNose();
                case PLACES:
                    return readPlace();
                case PATHS:
                    return readPath();
                case LEAVES:
                    return readHalves(LEAVES, PLACES, draft.leaves, 60);
                case TRAVELLERS:
                    return readTraveller();
                case WALKS:
                    return readWalk();
                case ASKED:
                    return readAsked();
                case WHIFFS:
                    return readWhiff();
                default:
                    return readHalves(ONS, TRAVELLERS, draft.on, 99);
            }
        }

        private boolean readWind() {
            if (!choice("wind") || !whole(1, 5)) {
                return false;
            }
            draft.sizes[WIND] = found;
            return true;
        }

        private boolean readLand() {
            if (!newName(LANDS) || !choice("duty") || !whole(0, 9)) {
                return false;
            }
            draft.landDuty[draft.sizes[LANDS]] = found;
            return count(LANDS);
        }

        private boolean readSmell() {
            int s = draft.sizes[SMELLS];
            if (!newName(SMELLS) || !choice(KINDS)) {
                return false;
            }
            draft.smellKind[s] = found;
            if (!choice("from") || !knownName(LANDS)) {
                return false;
            }
            draft.smellLand[s] = found;
            return count(SMELLS);
        }

        private boolean readNose() {
            if (!newName(NOSES) || !choice("skill") || !whole(1, 60)) {
                return false;
            }
            draft.noseSkill[draft.sizes[NOSES]] = found;
            return count(NOSES);
        }

        private boolean readPlace() {
            int p = draft.sizes[PLACES];
            if (!newName(PLACES) || !choice("in") || !knownName(LANDS)) {
                return false;
            }
            draft.placeLand[p] = found;
            draft.placeNose[p] = NOTHING;
            if (tokens.wordIn("nose") != NONE) {
                tokens.next();
                if (!knownName(NOSES)) {
                    return false;
                }
                draft.placeNose[p] = found;
            }
            return count(PLACES);
        }

        private boolean readPath() {
            if (!knownName(PLACES)) {
                return false;
            }
            int p = found;
            if (!knownName(PLACES)) {
                return false;
            }
            int q = found;
            if (q == p || draft.hours[p][q] > 0) {
                return wrong(AGAIN, foundAt);
            }
            if (!choice("hours") || !whole(1, 40)) {
                return false;
            }
            draft.hours[p][q] = found;
            draft.hours[q][p] = found;
            return count(PATHS);
        }

        /** What a place leaves or a traveller has on. */
        private boolean readHalves(int sort, int owners, int[][] halves, int high) {
            if (!knownName(owners)) {
                return false;
            }
            int owner = found;
            if (!knownName(SMELLS)) {
                return false;
            }
            int s = found;
            if (halves[owner][s] > 0) {
                return wrong(AGAIN, foundAt);
            }
            if (!whole(1, high)) {
                return false;
            }
            halves[owner][s] = 2 * found;
            return count(sort);
        }

        private boolean readTraveller() {
            int t = draft.sizes[TRAVELLERS];
            if (!newName(TRAVELLERS) || !choice(PEOPLE)) {
                return false;
            }
            draft.sort[t] = found;
            if (!choice("home") || !knownName(LANDS)) {
                return false;
            }
            draft.home[t] = found;
            if (!choice("at") || !knownName(PLACES)) {
                return false;
            }
            draft.start[t] = found;
            return count(TRAVELLERS);
        }

        private boolean readWalk() {
            if (!knownName(TRAVELLERS)) {
                return false;
            }
            int t = found;
            if (draft.walkLength[t] > 0) {
                return wrong(AGAIN, foundAt);
            }
            for (int i = 0; i < MOST_STOPS; i++) {
                if (!knownName(PLACES)) {
                    return false;
                }
                draft.walk[t][i] = found;
                draft.walkLength[t] = i + 1;
                if (tokens.kind != Tokens.COMMA) {
                    return count(WALKS);
                }
                tokens.next();
            }
            return knownName(PLACES) && wrong(MANY, foundAt);
        }

        private boolean readAsked() {
            int i = draft.sizes[ASKED];
            if (!knownName(TRAVELLERS)) {
                return false;
            }
            draft.askedOf[i] = found;
            if (!whole(0, 99)) {
                return false;
            }
            draft.askedWhole[i] = found;
            return count(ASKED);
        }

        private boolean readWhiff() {
            if (!knownName(SMELLS)) {
                return false;
            }
            int s = found;
            if (draft.whiff[s] != NONE) {
                return wrong(AGAIN, foundAt);
            }
            if (!whole(0, 60)) {
                return false;
            }
            draft.whiff[s] = found;
            return count(WHIFFS);
        }

        private boolean count(int sort) {
            draft.sizes[sort]++;
            return true;
        }

        private boolean choice(String list) {
            int number = tokens.wordIn(list);
            if (number == NONE) {
                return wrong(FORM, tokens.at);
            }
            return take(number);
        }

        private boolean whole(int low, int high) {
            if (tokens.kind != Tokens.WHOLE) {
                return wrong(FORM, tokens.at);
            }
            if (tokens.value < low || tokens.value > high) {
                return wrong(BOUNDS, tokens.at);
            }
            return take((int) tokens.value);
        }

        private boolean newName(int sort) {
            if (tokens.kind != Tokens.WORD || tokens.wordIn(RESERVED) != NONE) {
                return wrong(FORM, tokens.at);
            }
            if (nameAt() != NONE) {
                return wrong(AGAIN, tokens.at);
            }
            if (named >= MOST_NAMES) {
                return wrong(MANY, tokens.at);
            }
            names[named] = tokens.value;
            nameSorts[named] = sort;
            nameNumbers[named] = draft.sizes[sort];
            named++;
            return take(draft.sizes[sort]);
        }

        private boolean knownName(int sort) {
            if (tokens.kind != Tokens.WORD || tokens.wordIn(RESERVED) != NONE) {
                return wrong(FORM, tokens.at);
            }
            int name = nameAt();
            if (name == NONE || nameSorts[name] != sort) {
                return wrong(UNKNOWN, tokens.at);
            }
            return take(nameNumbers[name]);
        }

        private int nameAt() {
            for (int i = 0; i < named; i++) {
                if (names[i] == tokens.value) {
                    return i;
                }
            }
            return NONE;
        }

        private boolean take(int number) {
            found = number;
            foundAt = tokens.at;
            tokens.next();
            return true;
        }

        private boolean wrong(int number, int at) {
            fault = number;
            faultAt = at;
            return false;
        }
    }

    /** What is smelt of one traveller at one moment: take() goes ahead of the questions. */
    private static final class Air {
        static final int SEEDS = 65537;

        /** HALVES that an hour takes, by KIND. */
        private static final int[] FADES = {2, 1, 2, 4, 1};

        private final Border border;
        final int[] strong = new int[MOST_SMELLS];
        private int veil;

        Air(Border border) {
            this.border = border;
        }

        /** HALVES behind hours, of which winds have blown off some more. */
        void take(int[] halves, int hours, int blown) {
            int cover = 0;
            for (int s = 0; s < border.sizes[SMELLS]; s++) {
                int kind = border.smellKind[s];
                strong[s] = Math.max(0, halves[s] - FADES[kind] * hours - blown) / 2;
                if (kind == KIND_COVER) {
                    cover = Math.max(cover, strong[s]);
                }
            }
            veil = cover / 2;
        }

        void fade(int[] halves, int hours) {
            for (int s = 0; s < border.sizes[SMELLS]; s++) {
                halves[s] = Math.max(0, halves[s] - FADES[border.smellKind[s]] * hours);
            }
        }

        int uncovered(int s) {
            if (border.smellKind[s] == KIND_COVER) {
                return strong[s];
            }
            return strong[s] > veil ? strong[s] - veil : 0;
        }

        int smeltBy(int skill) {
            int bits = 0;
            for (int s = 0; s < border.sizes[SMELLS]; s++) {
                if (uncovered(s) >= skill) {
                    bits |= 1 << s;
                }
            }
            return bits;
        }

        /** DUTY by a nose of this skill; 0 is no nose. */
        int toll(int sort, int p, int skill) {
            if (skill == 0 || sort == SORT_CHILD) {
                return 0;
            }
            int sum = 0;
            for (int s = 0; s < border.sizes[SMELLS]; s++) {
                int left = uncovered(s);
                if (left >= skill && isDutiable(s, border.placeLand[p])) {
                    sum += left * border.landDuty[border.smellLand[s]];
                }
            }
            return sort == SORT_SOLDIER ? 2 * sum : sort == SORT_BRIDE ? sum / 2 : sum;
        }

        private boolean isDutiable(int s, int land) {
            int kind = border.smellKind[s];
            return kind != KIND_BURNT && kind != KIND_INCENSE && border.smellLand[s] != land;
        }

        /** The land that claims him; NOTHING. */
        int claimant() {
            int most = 0;
            int land = NOTHING;
            for (int l = 0; l < border.sizes[LANDS]; l++) {
                int sum = fromLand(l);
                if (sum > most) {
                    most = sum;
                    land = l;
                } else if (sum == most) {
                    land = NOTHING;
                }
            }
            return land;
        }

        private int fromLand(int land) {
            int sum = 0;
            for (int s = 0; s < border.sizes[SMELLS]; s++) {
                if (border.smellLand[s] == land && border.smellKind[s] != KIND_BURNT) {
                    sum += uncovered(s);
                }
            }
            return sum;
        }

        int together() {
            int sum = 0;
            for (int s = 0; s < border.sizes[SMELLS]; s++) {
                sum += strong[s];
            }
            return sum;
        }

        /** HALVES that winds take from every smell in so many hours. */
        int blown(int seed, int hours) {
            int wind = border.sizes[WIND];
            if (wind <= 0) {
                return 0;
            }
            int draw = seed;
            int sum = 0;
            for (int hour = 0; hour < hours; hour++) {
                draw = (75 * draw + 74) % SEEDS;
                sum += draw % wind;
            }
            return sum;
        }
    }

    /** What is of a traveller NOW. */
    private static final class Person {
        int place;
        int paid;
        int hours;
        final int[] halves = new int[MOST_SMELLS];

        void copy(Person other) {
            place = other.place;
            paid = other.paid;
            hours = other.hours;
            System.arraycopy(other.halves, 0, halves, 0, MOST_SMELLS);
        }

        boolean hasSomethingOn() {
            for (int s = 0; s < MOST_SMELLS; s++) {
                if (halves[s] > 0) {
                    return true;
                }
            }
            return false;
        }
    }

    /** NOW, with what can be undone and gone back to. */
    private static final class Acts {
        private static final int MOST_KEPT = 16;
        private static final int MOST_MARKS = 3;

        private final Border border;
        final Person[] now = people(MOST_TRAVELLERS);
        int kept;
        int marks;
        /** An ACT changes one traveller, so it is enough to keep that one as he was. */
        private final Person[] before = people(MOST_KEPT);
        private final int[] whose = new int[MOST_KEPT];
        private int next;
        private final Person[] marked = people(MOST_MARKS * MOST_TRAVELLERS);

        Acts(Border border) {
            this.border = border;
        }

        private static Person[] people(int count) {
            Person[] row = new Person[count];
            for (int i = 0; i < count; i++) {
                row[i] = new Person();
            }
            return row;
        }

        void begin() {
            kept = 0;
            marks = 0;
            for (int t = 0; t < MOST_TRAVELLERS; t++) {
                now[t].place = border.start[t];
                now[t].paid = 0;
                now[t].hours = 0;
                System.arraycopy(border.on[t], 0, now[t].halves, 0, MOST_SMELLS);
            }
        }

        void keep(int t) {
            before[next].copy(now[t]);
            whose[next] = t;
            next = (next + 1) % MOST_KEPT;
            kept = Math.min(kept + 1, MOST_KEPT);
        }

        boolean takeBack() {
            if (kept == 0) {
                return false;
            }
            next = (next + MOST_KEPT - 1) % MOST_KEPT;
            now[whose[next]].copy(before[next]);
            kept--;
            return true;
        }

        int setMark() {
            if (marks >= MOST_MARKS) {
                return NONE;
            }
            for (int t = 0; t < MOST_TRAVELLERS; t++) {
                marked[marks * MOST_TRAVELLERS + t].copy(now[t]);
            }
            marks++;
            return marks - 1;
        }

        boolean returnTo(int mark) {
            if (mark < 0 || mark >= marks) {
                return false;
            }
            for (int t = 0; t < MOST_TRAVELLERS; t++) {
                now[t].copy(marked[mark * MOST_TRAVELLERS + t]);
            }
            kept = 0;
            return true;
        }
    }

    /** WALKS from NOW, by whichever noses of places. */
    private static final class Walks {
        private final Border border;
        private final Air air;
        private final Acts acts;
        final int[] askedAt = new int[MOST_STOPS];
        int total;

        Walks(Border border, Air air, Acts acts) {
            this.border = border;
            this.air = air;
            this.acts = acts;
        }

        /** Whether it can be. */
        boolean follow(int t, int[] noses) {
            Person he = acts.now[t];
            int at = he.place;
            int hours = 0;
            total = 0;
            for (int i = 0; i < border.walkLength[t]; i++) {
                int stop = border.walk[t][i];
                int path = border.hours[at][stop];
                if (path == 0) {
                    return false;
                }
                at = stop;
                hours += path;
                air.take(he.halves, hours, 0);
                askedAt[i] = air.toll(border.sort[t], stop, border.skillAt(stop, noses));
                total += askedAt[i];
            }
            return true;
        }
    }

    /** All WAYS of a traveller to a place, the first by places' numbers first. */
    private static final class Ways {
        /** Between two of six places, if there were a path between each two: 1 + 4 + 12 + 24 + 24. */
        static final int MOST_WAYS = 65;

        private final Border border;
        private final Air air;
        int count;
        final int[] lengths = new int[MOST_WAYS];
        final int[][] stops = new int[MOST_WAYS][MOST_PLACES];
        /** Behind how many hours he comes to each stop. */
        final int[][] arrivals = new int[MOST_WAYS][MOST_PLACES];
        final int[] duties = new int[MOST_WAYS];
        private final int[] way = new int[MOST_PLACES];
        private final int[] clock = new int[MOST_PLACES];

        Ways(Border border, Air air) {
            this.border = border;
            this.air = air;
        }

        void list(Person he, int sort, int to) {
            count = 0;
            explore(0, he.place, 0, to, 1 << he.place);
            for (int w = 0; w < count; w++) {
                duties[w] = dutyAlong(w, he.halves, sort);
            }
        }

        private void explore(int depth, int p, int hours, int to, int seen) {
            if (depth >= MOST_PLACES) {
                return;
            }
            way[depth] = p;
            clock[depth] = hours;
            if (p == to) {
                add(depth + 1);
                return;
            }
            for (int q = 0; q < border.sizes[PLACES]; q++) {
                int path = border.hours[p][q];
                if (path > 0 && (seen >> q & 1) == 0) {
                    explore(depth + 1, q, hours + path, to, seen | 1 << q);
                }
            }
        }

        private void add(int length) {
            if (count < MOST_WAYS) {
                lengths[count] = length;
                System.arraycopy(way, 0, stops[count], 0, length);
                System.arraycopy(clock, 0, arrivals[count], 0, length);
                count++;
            }
        }

        /** Nothing is asked where he begins. */
        int dutyAlong(int w, int[] halves, int sort) {
            int sum = 0;
            for (int i = 1; i < lengths[w]; i++) {
                int p = stops[w][i];
                air.take(halves, arrivals[w][i], 0);
                sum += air.toll(sort, p, border.skillAt(p, border.placeNose));
            }
            return sum;
        }

        int hoursOf(int w) {
            int last = lengths[w] - 1;
            return last < 0 ? 0 : arrivals[w][last];
        }

        /** The number of the best by QUICKEST, CHEAPEST or SECRET; NONE. */
        int pick(int kind) {
            int best = NONE;
            for (int w = 0; w < count; w++) {
                boolean fits = kind != SECRET || duties[w] == 0;
                if (fits && (best == NONE || isBetter(kind, w, best))) {
                    best = w;
                }
            }
            return best;
        }

        private boolean isBetter(int kind, int w, int best) {
            if (kind == CHEAPEST && duties[w] != duties[best]) {
                return duties[w] < duties[best];
            }
            return hoursOf(w) < hoursOf(best);
        }
    }

    /** BEEN: the rows of places that the whiffs allow. */
    private static final class Trace {
        static final int LONGEST = 4;

        private final Border border;
        private final Air air;
        int rows;
        int inSome;
        int inAll;
        int firstLength;
        final int[] first = new int[LONGEST];
        private final int[] row = new int[LONGEST];
        /** HALVES by how many places lie behind. */
        private final int[][] halves = new int[LONGEST][MOST_SMELLS];

        Trace(Border border, Air air) {
            this.border = border;
            this.air = air;
        }

        void search() {
            rows = 0;
            inSome = 0;
            inAll = (1 << MOST_PLACES) - 1;
            firstLength = 0;
            for (int p = 0; p < border.sizes[PLACES]; p++) {
                for (int s = 0; s < MOST_SMELLS; s++) {
                    halves[0][s] = 0;
                }
                come(0, p, 1 << p);
            }
        }

        /** The HALVES of this depth are those with which he comes. */
        private void come(int depth, int p, int seen) {
            for (int s = 0; s < MOST_SMELLS; s++) {
                halves[depth][s] = Math.max(halves[depth][s], border.leaves[p][s]);
            }
            row[depth] = p;
            if (hasAllWhiffs(halves[depth])) {
                add(depth + 1, seen);
            }
            if (depth + 1 >= LONGEST) {
                return;
            }
            for (int q = 0; q < border.sizes[PLACES]; q++) {
                int path = border.hours[p][q];
                if (path > 0 && (seen >> q & 1) == 0) {
                    System.arraycopy(halves[depth], 0, halves[depth + 1], 0, MOST_SMELLS);
                    air.fade(halves[depth + 1], path);
                    come(depth + 1, q, seen | 1 << q);
                }
            }
        }

        private boolean hasAllWhiffs(int[] left) {
            for (int s = 0; s < border.sizes[SMELLS]; s++) {
                int whiff = border.whiff[s];
                if (whiff != NONE && whiff != left[s] / 2) {
                    return false;
                }
            }
            return true;
        }

        /** Rows of one length come by numbers, so of these the first is the first that comes. */
        private void add(int length, int seen) {
            rows++;
            inSome |= seen;
            inAll &= seen;
            if (firstLength == 0 || length < firstLength) {
                firstLength = length;
                System.arraycopy(row, 0, first, 0, length);
            }
        }
    }

    /** POSTS: which nose to which place. */
    private static final class Posting {
        private final Border border;
        private final Walks walks;
        int most;
        /** NOTHING where there is no nose. */
        final int[] best = new int[MOST_PLACES];
        private final int[] noses = new int[MOST_PLACES];

        Posting(Border border, Walks walks) {
            this.border = border;
            this.walks = walks;
        }

        void search() {
            most = NONE;
            post(0, 0);
        }

        /** Noses go to the first places as long as there are some, so that the last have none. */
        private void post(int p, int used) {
            if (p >= MOST_PLACES || p >= border.sizes[PLACES]) {
                weigh();
                return;
            }
            noses[p] = NOTHING;
            int all = (1 << border.sizes[NOSES]) - 1;
            if (border.placeNose[p] < 0 || used == all) {
                post(p + 1, used);
                return;
            }
            for (int nose = 0; nose < border.sizes[NOSES]; nose++) {
                if ((used >> nose & 1) == 0) {
                    noses[p] = nose;
                    post(p + 1, used | 1 << nose);
                }
            }
        }

        private void weigh() {
            int sum = 0;
            for (int t = 0; t < border.sizes[TRAVELLERS]; t++) {
                if (walks.follow(t, noses)) {
                    sum += walks.total;
                }
            }
            if (sum > most) {
                most = sum;
                System.arraycopy(noses, 0, best, 0, MOST_PLACES);
            }
        }
    }

    /** The GAME: the smuggler's WAYS against the places of a lone nose. */
    private static final class Game {
        private static final int SKILL = 1;

        private final Border border;
        private final Air air;
        private final Ways ways;
        int rests;
        int firstDuty;
        private final int[][] pays = new int[Ways.MOST_WAYS][MOST_PLACES];

        Game(Border border, Air air, Ways ways) {
            this.border = border;
            this.air = air;
            this.ways = ways;
        }

        /** Whether there is a WAY. */
        boolean play(Person he, int sort, int to) {
            ways.list(he, sort, to);
            for (int w = 0; w < ways.count; w++) {
                reckon(w, he, sort);
            }
            rests = 0;
            firstDuty = 0;
            for (int w = 0; w < ways.count; w++) {
                for (int p = 0; p < border.sizes[PLACES]; p++) {
                    if (p != he.place && isRest(w, p, he.place)) {
                        note(pays[w][p]);
                    }
                }
            }
            return ways.count > 0;
        }

        private void reckon(int w, Person he, int sort) {
            for (int p = 0; p < MOST_PLACES; p++) {
                pays[w][p] = 0;
            }
            for (int i = 1; i < ways.lengths[w]; i++) {
                int p = ways.stops[w][i];
                air.take(he.halves, ways.arrivals[w][i], 0);
                pays[w][p] = air.toll(sort, p, SKILL);
            }
        }

        private boolean isRest(int w, int p, int start) {
            for (int other = 0; other < ways.count; other++) {
                if (pays[other][p] < pays[w][p]) {
                    return false;
                }
            }
            for (int other = 0; other < border.sizes[PLACES]; other++) {
                if (other != start && pays[w][other] > pays[w][p]) {
                    return false;
                }
            }
            return true;
        }

        private void note(int duty) {
            if (rests == 0) {
                firstDuty = duty;
            }
            rests++;
        }
    }
}
