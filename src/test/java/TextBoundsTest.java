import java.util.ArrayList;
import java.util.List;

/**
 * The boundary cases of "Terms" I and of promises 2 to 5, a sentence of the document ahead of each: the last that is
 * allowed, and the first beyond it. The sign ^ stands ahead of the place of the FAULT that is due.
 */
public final class TextBoundsTest {
    private static final String START = "border wind 3;land a duty 2;place p in a";
    private static final String MORE = START + ";land b duty 0;smell s plain from a;nose n skill 5;place q in b nose n"
            + ";traveller t simple home a at p";

    private static final List<String> RESERVED = List.of("border", "land", "smell", "nose", "place", "path", "leaves",
            "traveller", "on", "walk", "asked", "whiff", "in");

    /** So much of everything as there is room for. */
    private static final String FULL = "border wind 5" + lines(4, "land #0 duty 9") + lines(6, "smell #4 plain from a")
            + lines(4, "nose #10 skill 60") + lines(6, "place #14 in a nose k") + lines(5, "path o #15 hours 40")
            + lines(4, "path p #16 hours 40") + ";path q r hours 40" + lines(6, "leaves o #4 60")
            + lines(2, "leaves p #4 60") + lines(4, "traveller #20 simple home a at o") + lines(6, "on u #4 99")
            + lines(6, "on v #4 99") + lines(4, "walk #20 p,o,p,o,p") + lines(4, "asked u 99")
            + lines(6, "whiff #4 60");

    public static void main(String[] args) {
        tape();
        firstBytes();
        bytesOfFeed();
        blanks();
        bytesThatBeginNoToken();
        words();
        wholesOfDigits();
        singleSigns();
        wholes();
        wholesAreTaken();
        rooms();
        everythingFull();
        walksOfOneToFive();
        once();
        reservedWords();
        otherWordsAreNames();
        toldAgain();
        ofAnotherSort();
        aheadOfItsUse();
        aheadOfTheBorder();
        atTheEnd();
        ends();
        otherTokens();
        firstFromTheLeft();
        leastNumberOfOnePlace();
        refusedByNumber();
        refusedByFault();
        toldAnew();
        faultOfTheLatest();
        whereOfTheLatest();
        Check.end("TextBoundsTest");
    }

    /** Lines with letters for names: #0 is a in the first and b in the second, #4 is e in the first. */
    private static String lines(int count, String line) {
        StringBuilder text = new StringBuilder();
        int sign = line.indexOf('#');
        for (int i = 0; i < count; i++) {
            String own = line;
            if (sign >= 0) {
                int end = (line + " ").indexOf(' ', sign);
                int first = Integer.parseInt(line.substring(sign + 1, end));
                own = line.substring(0, sign) + (char) ('a' + first + i) + line.substring(end);
            }
            text.append(';').append(own);
        }
        return text.toString();
    }

    private static void bad(int fault, String marked) {
        int at = marked.indexOf('^');
        String text = marked.substring(0, at) + marked.substring(at + 1);
        Calls calls = new Calls();
        Check.due("border() of " + marked, calls.tell(text), -1);
        Check.due("trouble() of " + marked, calls.call("trouble"), 4);
        Check.due("fault() of " + marked, calls.call("fault"), fault);
        Check.due("where() of " + marked, calls.call("where"), at);
        Check.due("size(13) of " + marked, calls.call("size", 13), 0);
        Check.due("size(4) of " + marked, calls.call("size", 4), 0);
    }

    private static Calls good(String text, int places) {
        Calls calls = new Calls();
        Check.due("border() of " + text, calls.tell(text), places);
        Check.due("trouble() of " + text, calls.call("trouble"), 0);
        Check.due("fault() of " + text, calls.call("fault"), 0);
        Check.due("where() of " + text, calls.call("where"), -1);
        Check.due("size(13) of " + text, calls.call("size", 13), 0);
        return calls;
    }

    private static void holds(Calls calls, String call, int due, int... arguments) {
        Check.due(call + java.util.Arrays.toString(arguments), calls.call(call, arguments), due);
    }

    // "THE TAPE has 1,100 bytes"; feed: "NONE, and none comes, if there would be more than 1,100".
    private static void tape() {
        Script script = Script.empty();
        script.rows("size 13 = 0", "posts ! 1");
        for (int i = 1; i <= 55; i++) {
            script.rows("feed 538976288 538976288 538976288 538976288 538976288 = " + 20 * i);
        }
        script.rows("size 13 = 1100", "feed 1 2 3 4 5 = -1", "feed 0 0 0 0 0 = -1", "size 13 = 1100");
        Calls calls = new Calls();
        calls.feed(" ".repeat(1080));
        Check.due("feed() up to 1,100", calls.feed("border"), 1100);
        Check.due("feed() beyond", calls.feed("x"), -1);
        Check.due("border(1087)", calls.call("border", 1087), -1);
        Check.due("fault(): the bytes that did not come are not there", calls.call("fault"), 1);
        Check.due("where()", calls.call("where"), 1087);
        Check.due("feed() on an empty tape", calls.feed("x"), 20);
        // Refused feeds don't add up: sixty more, and it is as full as it was.
        Calls full = new Calls();
        full.feed(" ".repeat(1100));
        for (int i = 0; i < 60; i++) {
            Check.due("feed() beyond", full.call("feed", -1, -1, -1, -1, -1), -1);
        }
        Check.due("size(13)", full.call("size", 13), 1100);
        Check.due("border(1100)", full.call("border", 1100), -1);
        Check.due("where(), all blanks", full.call("where"), 1100);
    }

    // border: "The first n bytes of THE TAPE (it is empty then)"; "NONE: 2 (THE TAPE stays)".
    private static void firstBytes() {
        Calls all = new Calls();
        String whole = " ".repeat(1100 - START.length()) + START;
        Check.due("feed()", all.feed(whole), 1100);
        Check.due("border(1101)", all.call("border", 1101), -1);
        Check.due("trouble()", all.call("trouble"), 2);
        Check.due("border(1100)", all.call("border", 1100), 1);
        Check.due("size(13)", all.call("size", 13), 0);
        Calls less = new Calls();
        less.feed(whole);
        Check.due("border(1099)", less.call("border", 1099), -1);
        Check.due("fault()", less.call("fault"), 1);
        Check.due("where()", less.call("where"), 1099);
        Check.due("size(13) behind less than all", less.call("size", 13), 0);
        // What stands behind the first n bytes is not read, be it what it may.
        Calls behind = new Calls();
        behind.feed(START + ";;%%,foo");
        Check.due("border() of the first bytes", behind.call("border", START.length()), 1);
        Check.due("size(13)", behind.call("size", 13), 0);
        Check.due("border(1), the tape is empty", behind.call("border", 1), -1);
        Check.due("trouble()", behind.call("trouble"), 2);
        Calls none = new Calls();
        none.feed(START);
        Check.due("border(0)", none.call("border", 0), -1);
        Check.due("trouble()", none.call("trouble"), 4);
        Check.due("fault()", none.call("fault"), 1);
        Check.due("where()", none.call("where"), 0);
        Check.due("size(13)", none.call("size", 13), 0);
        // Behind a text that is done with, the next begins with the tape's first byte.
        Calls again = new Calls();
        again.tell("border wind 3;land a duty 2;place p in a;place q in a;place r in a;place s in a");
        Check.due("a second text", again.tell(START), 1);
        Check.due("a third text", again.tell(START + ";place q in a"), 2);
    }

    // feed: "Twenty bytes come behind THE TAPE, of each number the highest first".
    private static void bytesOfFeed() {
        int[] blank = {0x20202020, 0x20202020, 0x20202020, 0x20202020, 0x20202020};
        for (int at = 0; at < 20; at++) {
            for (int sign : new int[] {0, 1, 127, 128, 255}) {
                int[] numbers = blank.clone();
                int shift = 24 - 8 * (at % 4);
                numbers[at / 4] = numbers[at / 4] & ~(255 << shift) | sign << shift;
                Calls calls = new Calls();
                Check.due("feed", calls.call("feed", numbers), 20);
                Check.due("border(20)", calls.call("border", 20), -1);
                Check.due("fault()", calls.call("fault"), 1);
                Check.due("where() of byte " + sign, calls.call("where"), at);
            }
        }
    }

    // "blanks, 32, part TOKENS and mean nothing else".
    private static void blanks() {
        good("border wind 3;land a duty 2;place p in a", 1);
        good("border wind3;land a duty2;place p in a", 1);
        good("border  wind  3  ;  land  a  duty  2  ;  place  p  in  a  ", 1);
        good(" ".repeat(500) + START + " ".repeat(560), 1);
        good(MORE + ";walk t p,q;on t s9;asked t9", 2);
        good(MORE + ";walk t p , q ; on t s 9 ; asked t 9", 2);
        bad(1, "^borderwind 3");
        bad(1, "border ^windy 3");
        bad(1, "^bor der wind 3");
        bad(1, "border ^wi nd 3");
        bad(1, START + ";nose n skill 1 ^2");
        bad(1, START + ";^landb duty 2");
        bad(1, START + ";land b ^");
        bad(1, START + ";land b  ^2");
        bad(1, "     ^");
    }

    // "1 FORM: the first byte that begins no TOKEN": 32 and a to z, 0 to 9, ; and , do; their neighbours don't.
    private static void bytesThatBeginNoToken() {
        for (int sign = 0; sign < 256; sign++) {
            boolean begins = sign == ' ' || sign >= 'a' && sign <= 'z' || sign >= '0' && sign <= '9' || sign == ';'
                    || sign == ',';
            if (!begins) {
                bad(1, "^" + (char) sign + START);
                bad(1, "border^" + (char) sign + " wind 3");
                bad(1, START + "^" + (char) sign);
                bad(1, START + ";land b duty ^" + (char) sign + "1");
            }
        }
        for (char letter = 'a'; letter <= 'z'; letter++) {
            if (letter != 'p') {
                good("border wind 3;land " + letter + " duty 2;place p in " + letter, 1);
            }
        }
        for (char digit = '0'; digit <= '9'; digit++) {
            good("border wind 3;land a duty " + digit + ";place p in a", 1);
        }
    }

    // "WORDS of 1 to 9 small letters that stand together".
    private static void words() {
        for (int length = 1; length <= 9; length++) {
            String name = "zabcdefgh".substring(0, length);
            good("border wind 3;land " + name + " duty 2;place p in " + name, 1);
            good("border wind 3;land " + "z".repeat(length) + " duty 2;place a in " + "z".repeat(length), 1);
            bad(2, "border wind 3;land " + name + " duty 2;place p in ^" + (length == 1 ? "x" : name.substring(1)));
        }
        for (int length : new int[] {10, 11, 12, 13, 14, 26, 64, 500, 1000}) {
            bad(1, "border wind 3;land ^" + "a".repeat(length) + " duty 2");
            bad(1, "border wind 3;land a duty 2;place p in ^" + "a".repeat(length));
            bad(1, "^" + "border" + "r".repeat(length - 6) + " wind 3");
        }
        // Nine letters of which one alone is another, the first and the last.
        good("border wind 3;land abcdefghi duty 1;land bbcdefghi duty 2;land abcdefghj duty 3;place p in abcdefghj", 1);
        bad(3, "border wind 3;land abcdefghi duty 1;land ^abcdefghi duty 2");
        bad(2, "border wind 3;land abcdefghi duty 1;place p in ^abcdefghj");
        bad(2, "border wind 3;land abcdefghi duty 1;place p in ^bbcdefghi");
        bad(2, "border wind 3;land a duty 1;place p in ^aa");
        // Letters that would be alike if they were counted in less than 26.
        for (String two : List.of("q aq", "bq ca", "ap b", "aa q", "az bj", "p aa", "ab ba", "azz baz")) {
            String[] names = two.split(" ");
            for (int i = 0; i < 2; i++) {
                bad(2, "border wind 3;land " + names[i] + " duty 1;place z in ^" + names[1 - i]);
                good("border wind 3;land " + names[i] + " duty 1;land " + names[1 - i] + " duty 2;place z in " + names[i], 1);
            }
        }
        good("border wind 3;land a duty 1;land aa duty 2;land aaaaaaaaa duty 3;place aaaaaaaa in aa", 1);
    }

    // "WHOLES of 1 to 2 digits that do".
    private static void wholesOfDigits() {
        holds(good("border wind 5;land a duty 2;place p in a", 1), "size", 5, 0);
        holds(good("border wind 05;land a duty 2;place p in a", 1), "size", 5, 0);
        bad(1, "border wind ^005;land a duty 2;place p in a");
        for (int length : new int[] {3, 4, 9, 10, 11, 19, 20, 21, 500, 1000}) {
            bad(1, "border wind ^" + "0".repeat(length - 1) + "3");
            bad(1, "border wind ^" + "9".repeat(length));
            bad(1, MORE + ";on t s ^" + "1".repeat(Math.min(length, 900)));
        }
        bad(1, START + ";land b duty ^555a");
        bad(4, START + ";land b duty ^55a");
        bad(1, START + ";land b duty 5^a");
    }

    // "single ones of ; ,".
    private static void singleSigns() {
        bad(1, "border wind 3;^;land a duty 2;place p in a");
        bad(1, "border wind 3; ^; land a duty 2;place p in a");
        bad(1, START + ";^");
        bad(1, START + ";^;");
        bad(1, START + "^,");
        bad(1, "^" + ";" + START);
        bad(1, "^,");
        bad(1, MORE + ";walk t p,^,q");
        bad(1, MORE + ";walk t ^,p");
        bad(1, MORE + ";walk t p,^;land c duty 2");
        bad(1, MORE + ";walk ^,");
        bad(1, MORE + ";path p^,q hours 3");
    }

    // The bounds of each WHOLE: "4 a WHOLE out of bounds; at it". All of one and of two digits are tried.
    private static void wholes() {
        bounds("border wind ^#;land a duty 2;place p in a", 1, 5);
        bounds("border wind 3;land a duty ^#;place p in a", 0, 9);
        bounds(START + ";nose n skill ^#", 1, 60);
        bounds(MORE + ";path p q hours ^#", 1, 40);
        bounds(MORE + ";leaves p s ^#", 1, 60);
        bounds(MORE + ";on t s ^#", 1, 99);
        bounds(MORE + ";asked t ^#", 0, 99);
        bounds(MORE + ";whiff s ^#", 0, 60);
    }

    private static void bounds(String marked, int low, int high) {
        int places = marked.startsWith(MORE) ? 2 : 1;
        for (int number = 0; number <= 99; number++) {
            String two = (number < 10 ? "0" : "") + number;
            for (String digits : List.of("" + number, two)) {
                if (number >= low && number <= high) {
                    good(marked.replace("^#", digits), places);
                } else {
                    bad(4, marked.replace("#", digits));
                }
            }
        }
        bad(1, marked.replace("#", "100"));
        bad(1, marked.replace("#", "000"));
    }

    // The same bounds, where they are used: the least and the greatest are what they say.
    private static void wholesAreTaken() {
        for (int number : new int[] {1, 5}) {
            holds(good("border wind " + number + ";land a duty 2;place p in a", 1), "size", number, 0);
        }
        for (int number : new int[] {0, 9}) {
            Calls calls = good("border wind 3;land a duty " + number + ";place p in a;smell s plain from a", 1);
            holds(calls, "smell", number, 0, 2);
        }
        for (int number : new int[] {1, 60}) {
            Calls calls = good(START + ";nose n skill " + number + ";smell s plain from a;traveller t simple home a at p"
                    + ";traveller u simple home a at p;on t s " + number + ";on u s " + (number == 1 ? 2 : 59), 1);
            holds(calls, "smelt", 1, 0, 0, 0);
            holds(calls, "smelt", number == 1 ? 1 : 0, 1, 0, 0);
            calls = good(MORE + ";leaves p s " + number + ";whiff s " + number, 2);
            holds(calls, "been", 1);
            holds(calls, "could", 1);
        }
        for (int number : new int[] {1, 40}) {
            holds(good(MORE + ";path p q hours " + number, 2), "path", number, 0, 1);
        }
        for (int number : new int[] {1, 99}) {
            holds(good(MORE + ";on t s " + number, 2), "strength", number, 0, 0, 0);
        }
        String soldier = "border wind 1;land a duty 9;land b duty 1;smell s plain from a;nose n skill 1;place p in b"
                + ";place q in b nose n;path p q hours 1;traveller t simple home a at p;walk t q;on t s ";
        holds(good(soldier + "12;asked t 99", 2), "wrongly", -2);
        holds(good(soldier + "12;asked t 98", 2), "wrongly", 0);
        holds(good(soldier + "1;asked t 0", 2), "wrongly", -2);
        holds(good(soldier + "1;asked t 1", 2), "wrongly", 0);
        holds(good(MORE + ";whiff s 0", 2), "been", 2);
    }

    // "up to 4", "up to 6", ..: "5 MANY: a LINE more of its sort than there is room for, at its first WORD".
    private static void rooms() {
        String some = "border wind 1;land a duty 1;land b duty 1;smell e plain from a;smell f plain from a"
                + ";smell g plain from a;smell h plain from a;nose k skill 1;place o in a;place p in a;place q in a"
                + ";place r in a;place s in a;traveller u child home a at o;traveller v child home a at o";
        room(1, 4, some, lines(2, "land #2 duty 1"), "land l duty 1");
        room(2, 6, some, lines(2, "smell #8 plain from a"), "smell l plain from a");
        room(3, 4, some, lines(3, "nose #11 skill 1"), "nose z skill 1");
        room(4, 6, some, ";place t in a nose k", "place z in a");
        room(5, 10, some, lines(4, "path o #15 hours 1") + lines(3, "path p #16 hours 1") + lines(2, "path q #17 hours 1")
                + ";path r s hours 1", "path r s hours 1");
        room(6, 8, some, lines(4, "leaves o #4 1") + lines(4, "leaves p #4 1"), "leaves q e 1");
        room(7, 4, some, lines(2, "traveller #22 child home a at o"), "traveller z child home a at o");
        String ons = lines(4, "on u #4 1") + lines(4, "on v #4 1") + ";traveller w child home a at o" + lines(4, "on w #4 1");
        room(-1, 12, some, ons, "on u i 1");
        room(9, 4, some, ";asked u 1;asked u 1;asked v 0;asked u 99", "asked v 1");
    }

    private static void room(int what, int most, String some, String rest, String more) {
        int places = what == 4 ? 6 : 5;
        Calls calls = good(some + rest, places);
        if (what >= 0) {
            holds(calls, "size", most, what);
        }
        String word = more.substring(0, more.indexOf(' '));
        bad(5, some + rest + ";^" + more);
        bad(5, some + rest + ";  ^" + more);
        // At its first WORD, so that nothing that is wrong behind it is met.
        bad(5, some + rest + ";^" + word);
        bad(5, some + rest + ";^" + word + " " + word);
        bad(5, some + rest + ";^" + word + " zz 99;%");
        // One less has room for one more, so that what is wrong behind the WORD is met.
        String less = rest.substring(0, rest.lastIndexOf(';'));
        bad(1, some + less + ";" + word + " ^" + word);
    }

    private static void everythingFull() {
        String padded = FULL + " ".repeat(Math.max(0, 1100 - FULL.length()));
        Check.due("all that there is room for is at most 1,100 bytes", padded.length(), 1100);
        Calls calls = good(padded, 6);
        int[] sizes = {5, 4, 6, 4, 6, 10, 8, 4, 4, 4, 6, 0, 0, 0};
        for (int what = 0; what < sizes.length; what++) {
            holds(calls, "size", sizes[what], what);
        }
        // Of the tenth path, the eighth leaves, the twelfth on, the fourth walk and asked, the sixth whiff.
        holds(calls, "path", 40, 2, 3);
        holds(calls, "place", 5, 0, 2);
        holds(calls, "strength", 99, 1, 5, 0);
        holds(calls, "walked", 0, 3);
        // The rows that end with o: 1 + 5 + 10 + 16.
        holds(calls, "been", 32);
        holds(calls, "beenAt", 0, 0);
        holds(calls, "traveller", 0, 3, 2);
        holds(calls, "postOf", 3, 3);
        holds(calls, "postOf", -2, 4);
    }

    // "walk TRAVELLER PLACE {, PLACE} (1 to 5 of these": "a sixth PLACE of a walk: at it".
    private static void walksOfOneToFive() {
        String start = MORE + ";path p q hours 1;walk t";
        bad(1, start + "^");
        bad(1, start + " ^;");
        bad(1, start + " ^,q");
        String[] stops = {"q", "p", "q", "p", "q"};
        StringBuilder walk = new StringBuilder(start);
        for (int count = 1; count <= 5; count++) {
            walk.append(count == 1 ? " " : ",").append(stops[count - 1]);
            Calls calls = good(walk.toString(), 2);
            holds(calls, "walkedAt", 0, 0, count - 1);
            holds(calls, "walkedAt", -1, 0, count);
            holds(calls, "size", 1, 8);
        }
        bad(5, walk + ",^p");
        bad(5, walk + " ,  ^p,q");
        bad(5, walk + ",^q%");
        // Of one place the least number: what is no PLACE is that, ahead of being one too many.
        bad(2, walk + ",^t");
        bad(2, walk + ",^zz");
        bad(1, walk + ",^in");
        bad(1, walk + ",^5");
        bad(1, walk + ",^;");
        bad(1, walk + ",^");
        bad(1, walk + " ^%");
    }

    // "unlike; once in whatever order", "each two once", "once for each"; "a NOSE may be at more than one".
    private static void once() {
        bad(3, MORE + ";path p ^p hours 1");
        bad(3, MORE + ";path q ^q");
        bad(3, MORE + ";path p q hours 1;path p ^q hours 2");
        bad(3, MORE + ";path p q hours 1;path q ^p hours 1");
        bad(3, MORE + ";path q p hours 40;path p ^q");
        good(MORE + ";place r in a;path p q hours 1;path r q hours 1;path r p hours 1", 3);
        bad(3, MORE + ";leaves p s 1;leaves p ^s 1");
        bad(3, MORE + ";leaves q s 60;leaves p s 1;leaves q ^s");
        good(MORE + ";smell u plain from a;leaves p s 1;leaves q s 1;leaves p u 1;leaves q u 1", 2);
        bad(3, MORE + ";on t s 1;on t ^s 1");
        bad(3, MORE + ";on t s 99;on t ^s");
        good(MORE + ";smell u plain from a;traveller v child home a at p;on t s 1;on v s 1;on v u 1;on t u 1", 2);
        // What a place leaves and what a traveller has on are no two of one sort.
        good(MORE + ";leaves p s 1;on t s 1;whiff s 1", 2);
        bad(3, MORE + ";walk t p;walk ^t q");
        bad(3, MORE + ";walk t p,p,p,p,p;walk ^t");
        good(MORE + ";traveller v child home a at p;walk v p;walk t p", 2);
        bad(3, MORE + ";whiff s 0;whiff ^s 0");
        bad(3, MORE + ";whiff s 60;whiff ^s");
        good(MORE + ";smell u plain from a;whiff u 0;whiff s 0", 2);
        // With a walk for each of four, a whiff for each of six: once for each is their only bound.
        String all = START + lines(5, "smell #20 plain from a") + ";smell z plain from a" + lines(4, "traveller #4 child home a at p");
        String walks = lines(4, "walk #4 p");
        String whiffs = lines(5, "whiff #20 1") + ";whiff z 1";
        holds(good(all + walks + whiffs, 1), "size", 4, 8);
        holds(good(all + walks + whiffs, 1), "size", 6, 10);
        bad(3, all + walks + ";walk ^e p");
        bad(3, all + walks + ";walk ^h");
        bad(2, all + walks + ";walk ^zz");
        bad(1, all + walks + ";walk ^5");
        bad(3, all + whiffs + ";whiff ^z 1");
        bad(2, all + whiffs + ";whiff ^zz");
        bad(1, all + whiffs + ";whiff^");
        // asked may be told of one traveller again.
        holds(good(MORE + lines(4, "asked t 7"), 2), "size", 4, 9);
        // One nose at all places.
        Calls calls = good(MORE + ";place r in a nose n;place u in b nose n", 4);
        holds(calls, "place", 0, 1, 1);
        holds(calls, "place", 0, 2, 1);
        holds(calls, "place", 0, 3, 1);
        // "a second border: at that WORD".
        bad(3, "border wind 3;^border wind 3");
        bad(3, "border wind 3; ^border");
        bad(3, MORE + ";^border");
        bad(3, MORE + ";^border wind 9;%");
    }

    // "NAMES are WORDS but border, land, ..": where a NAME must stand, these are FORM.
    private static void reservedWords() {
        for (String word : RESERVED) {
            for (String line : List.of("land ^# duty 1", "smell ^# plain from a", "nose ^# skill 1", "place ^# in a",
                    "traveller ^# child home a at p", "smell u plain from ^#", "place r in ^#", "place r in a nose ^#",
                    "path ^# p hours 1", "path p ^# hours 1", "leaves ^# s 1", "leaves p ^# 1",
                    "traveller u child home ^# at p", "traveller u child home a at ^#", "on ^# s 1", "on t ^# 1",
                    "walk ^# p", "walk t ^#", "walk t p,^#", "asked ^# 1", "whiff ^# 1")) {
                bad(1, MORE + ";" + line.replace("#", word));
            }
        }
    }

    private static void otherWordsAreNames() {
        good("border wind 1;land wind duty 1;land duty duty 1;land from duty 1;land skill duty 1;smell plain plain from duty"
                + ";smell heavy heavy from from;smell cover cover from wind;smell burnt burnt from skill"
                + ";smell incense incense from wind;nose hours skill 1;nose home skill 1;nose at skill 1;nose simple skill 1"
                + ";place soldier in from nose at;place bride in skill nose home;place child in duty nose hours"
                + ";path soldier bride hours 1;traveller borders simple home wind at bride;traveller i child home from at child"
                + ";traveller ins bride home duty at soldier;traveller lan soldier home skill at bride", 3);
    }

    // "3 a NAME told again; at it": of whichever two sorts.
    private static void toldAgain() {
        List<String> names = List.of("a", "s", "n", "p", "t");
        List<String> lines = List.of("land ^# duty 1", "smell ^# plain from a", "nose ^# skill 1", "place ^# in a",
                "traveller ^# child home a at p", "land ^#", "smell ^#", "nose ^#", "place ^#", "traveller ^#");
        for (String name : names) {
            for (String line : lines) {
                bad(3, MORE + ";" + line.replace("#", name));
            }
        }
    }

    // "2 a NAME that isn't told, or is of another sort than must stand there; at it".
    private static void ofAnotherSort() {
        String world = MORE + ";place r in a;smell x plain from a;traveller v child home a at p";
        List<String> lines = List.of("a:smell u plain from ^#", "a:place u in ^#", "n:place u in a nose ^#",
                "p:path ^# r hours 1", "p:path r ^# hours 1", "p:leaves ^# x 1", "s:leaves p ^# 1",
                "a:traveller u child home ^# at p", "p:traveller u child home a at ^#", "t:on ^# x 1", "s:on t ^# 1",
                "t:walk ^# p", "p:walk t ^#", "p:walk t r,^#", "p:walk t r,r,^#", "p:walk t r,r,r,^#", "p:walk t r,r,r,r,^#",
                "t:asked ^# 1", "s:whiff ^# 1");
        for (String line : lines) {
            String right = line.substring(0, 1);
            String text = world + ";" + line.substring(2);
            for (String name : List.of("a", "s", "n", "p", "t", "zz", "wind", "home")) {
                if (name.equals(right)) {
                    Check.due(text, new Calls().tell(text.replace("^#", name)) >= 3, true);
                } else {
                    bad(2, text.replace("#", name));
                }
            }
        }
        bad(2, world + ";walk t r,r,r,r,r,^a");
    }

    // "each told once, ahead of its use".
    private static void aheadOfItsUse() {
        bad(2, "border wind 3;smell s plain from ^a;land a duty 1;place p in a");
        bad(2, "border wind 3;place p in ^a;land a duty 1");
        bad(2, START + ";place q in a nose ^n;nose n skill 1");
        bad(2, START + ";path p ^q hours 1;place q in a");
        bad(2, START + ";path ^q p hours 1;place q in a");
        bad(2, START + ";leaves p ^s 1;smell s plain from a");
        bad(2, START + ";walk ^t p;traveller t child home a at p");
        bad(2, START + ";traveller t child home a at ^q;place q in a");
        bad(2, START + ";asked ^t 1;traveller t child home a at p");
        bad(2, START + ";whiff ^s 1;smell s plain from a");
        // Nor is it told ahead of its own LINE's end.
        bad(2, START + ";smell s plain from ^s");
        bad(2, START + ";place q in ^q");
        bad(2, START + ";place q in a nose ^q");
        bad(2, START + ";traveller t child home ^t at p");
        bad(2, START + ";traveller t child home a at ^t");
        // Every LINE may stand behind whichever, if its NAMES are told.
        good("border wind 1;land a duty 1;place p in a;traveller t child home a at p;walk t p;asked t 1;land b duty 1"
                + ";smell s plain from b;whiff s 1;on t s 1;place q in b;path q p hours 1;leaves q s 1;nose n skill 1"
                + ";place r in a nose n", 3);
    }

    // "6 LACKS: any LINE ahead of the border; at its WORD".
    private static void aheadOfTheBorder() {
        for (String word : RESERVED) {
            if (!word.equals("border") && !word.equals("in")) {
                bad(6, "^" + word);
                bad(6, "   ^" + word + " %");
                bad(6, "^" + word + ";" + START);
            }
        }
        bad(6, "^land a duty 2;" + START);
        bad(1, "^in");
        bad(1, "^wind 3");
        bad(1, "^borders wind 3");
        bad(1, "border^");
        bad(1, "border ^land a duty 2");
    }

    // "at the end: no land, no place"; "the end: its place".
    private static void atTheEnd() {
        bad(6, "border wind 3^");
        bad(6, "border wind 3   ^");
        bad(6, "border wind 3;nose n skill 1^");
        bad(6, "border wind 3;land a duty 2^");
        bad(6, "border wind 3;land a duty 2;smell s plain from a;whiff s 0 ^");
        good("border wind 3;land a duty 2;place p in a", 1);
        good("border wind 3;land a duty 2;place p in a   ", 1);
        bad(1, "border wind 3;^");
        bad(1, "border wind 3;land a duty 2;  ^");
        // 1,100 bytes without a place: the end's place is behind the last byte.
        bad(6, "border wind 3;land a duty 2" + " ".repeat(1100 - 27) + "^");
        bad(1, START + ";" + " ".repeat(1100 - 1 - START.length()) + "^");
    }

    // "FORM: .. TOKEN with which no BORDER goes on (the end: its place)". The sign | stands where a text may end.
    private static final String ALL_LINES = "border wind 3|;land a duty 2|;smell s plain from a|;nose n skill 5|"
            + ";place p in a| nose n|;place q in a|;path p q hours 3|;leaves p s 5|;traveller t simple home a at p|"
            + ";on t s 5|;walk t q|, p|;asked t 5|;whiff s 5|";

    private static List<String> tokens() {
        List<String> tokens = new ArrayList<>();
        for (String token : ALL_LINES.replace(";", " ; ").replace(",", " , ").replace("|", " | ").trim().split(" +")) {
            tokens.add(token);
        }
        return tokens;
    }

    private static void ends() {
        StringBuilder text = new StringBuilder();
        int places = 0;
        String last = "";
        List<String> tokens = tokens();
        for (int i = 0; i < tokens.size(); i++) {
            String token = tokens.get(i);
            if (token.equals("|")) {
                if (places > 0) {
                    good(text.toString(), places);
                } else {
                    bad(6, text + "^");
                    bad(6, text + "  ^");
                }
                last = token;
                continue;
            }
            if (!last.equals("|")) {
                bad(1, text + "^");
                bad(1, text + "  ^");
            }
            text.append(token).append(' ');
            places += token.equals("place") ? 1 : 0;
            last = token;
        }
        good(text.toString(), 2);
    }

    // At each place of a text every TOKEN of a sort that can't stand there is FORM, at it.
    private static void otherTokens() {
        StringBuilder text = new StringBuilder();
        String line = "";
        List<String> tokens = tokens();
        tokens.removeIf(token -> token.equals("|"));
        for (String token : tokens) {
            line = token.equals(";") ? "" : line.isEmpty() ? token : line;
            // What could stand there is left out: another number, a place more, an end, a NAME.
            for (String other : List.of("7", ",", ";", "in", "wind", "%")) {
                boolean number = other.equals("7") && Character.isDigit(token.charAt(0));
                boolean more = other.equals(",") && token.equals(";") && text.toString().endsWith(", p ");
                boolean ended = other.equals(";") && (token.equals("nose") && line.equals("place") || token.equals(","));
                boolean name = other.equals("wind") && token.length() == 1 && Character.isLetter(token.charAt(0));
                if (!token.equals(other) && !number && !more && !ended && !name) {
                    bad(1, text + "^" + other);
                    bad(1, text + "^" + other + " ;");
                }
            }
            text.append(token).append(' ');
        }
        for (String other : List.of("7", ",", "in", "wind", "%", "land b duty 1")) {
            bad(1, text + "^" + other);
        }
    }

    // "FAULTS, the first that is met from the left".
    private static void firstFromTheLeft() {
        bad(4, "border wind ^6;land a duty 10");
        bad(4, "border wind ^0 %");
        bad(1, "border wind 3^%;land a duty 10");
        bad(2, "border wind 3;land a duty 1;place p in ^b nose c");
        bad(2, MORE + ";path ^zz p hours 99");
        bad(3, MORE + ";path p ^p hours 99");
        bad(4, MORE + ";path p q hours ^99;path p p");
        bad(2, MORE + ";on ^s t 0");
        bad(3, MORE + ";land ^a duty 99");
        bad(6, "^land zz;%");
        bad(1, MORE + ";walk t p,p,p,p,p ^p");
        bad(1, START + ";nose n skill ^999;land a duty 1");
        bad(5, "border wind 1" + lines(4, "land #0 duty 1") + ";^land a duty 99;place p in zz");
    }

    // "of one place the least number".
    private static void leastNumberOfOnePlace() {
        // FORM and LACKS at the end; FORM and LACKS at a first WORD.
        bad(1, "border wind 3;land a duty^");
        bad(1, "border wind^");
        bad(1, "^foo");
        bad(1, "^");
        // FORM and MANY, a NAME and MANY, at a sixth PLACE.
        bad(1, MORE + ";walk t p,p,p,p,p,^walk");
        bad(2, MORE + ";walk t p,p,p,p,p,^n");
        // A NAME of another sort and one told again: the second PLACE of a path.
        bad(2, MORE + ";path p ^a");
        // A second border is told again, though a BORDER has room for one alone.
        bad(3, MORE + ";^border wind 3");
        // A TRAVELLER that has a walk, and of whom six PLACES are told.
        bad(3, MORE + ";walk t p;walk ^t p,p,p,p,p,p");
    }

    private static final String WORLD = "border wind 4;land a duty 2;land b duty 3;smell r plain from a;smell h heavy from b"
            + ";smell k cover from b;nose n skill 5;place p in b;place q in b nose n;path p q hours 3;leaves p r 9"
            + ";traveller t simple home a at p;traveller u bride home b at q;on t r 30;on t h 12;on u k 9;walk t q,p"
            + ";asked t 54;whiff r 9";

    private static Script lived() {
        return Script.of(WORLD).rows("mark = 0", "waits 1 3 = 3", "go 0 1 = 54", "mark = 1", "wash 0 = 1", "spray 1 0 7 = 1",
                "waits 0 1 = 4");
    }

    // border: "NONE: 2 (THE TAPE stays)"; and nothing else changes.
    private static void refusedByNumber() {
        lived().rows("border 1 ! 2", "border -1 ! 2", "border min ! 2", "border max ! 2", "border 1100 ! 2");
        lived().feeds(START).rows("size 13 = 40", "border 41 ! 2", "border -1 ! 2", "border 1101 ! 2", "border max ! 2",
                "size 13 = 40", "border 40 = 1", "size 13 = 0", "border 1 ! 2");
        Script.empty().rows("border 1 ! 2", "border -1 ! 2", "size 13 = 0");
        Script.empty().feeds(" ".repeat(1100)).rows("border 1101 ! 2", "size 13 = 1100");
    }

    // border: "4 (the BORDER stays)": with all that was done.
    private static void refusedByFault() {
        lived().faulty(1, "^").faulty(1, START + ";^").faulty(2, "border wind 1;land b duty 1;place p in ^a")
                .faulty(3, "border wind 1;land b duty 1;place ^b").faulty(4, "border wind ^9")
                .faulty(5, "border wind 5;land a duty 9" + lines(6, "place #4 in a") + ";^place z in a").faulty(6, "^land")
                .faulty(6, "border wind 5;land b duty 1;smell s heavy from b^");
        // Of a whole new text with a FAULT at its end nothing is taken.
        String other = "border wind 1;land b duty 9;smell h plain from b;smell z heavy from b;nose m skill 60"
                + ";place p in b nose m;place q in b;place z in b";
        lived().faulty(3, other.replace("place z", "place y") + ";path p q hours 40;traveller t child home b at p;on t h 99"
                + ";leaves p h 60;walk t p;asked t 1;whiff h 60;whiff ^h");
        Script.empty().faulty(6, "border wind 3^").faulty(2, START + ";walk ^t");
    }

    // border: "travellers as told, nothing PAID; nothing to undo, no MARKS".
    private static void toldAnew() {
        lived().rows("size 11 = 5", "size 12 = 2").feeds(WORLD).rows("border " + WORLD.length() + " = 2", "size 11 = 0",
                "size 12 = 0", "undo ! 6", "back 0 ! 1", "back 1 ! 1", "traveller 0 2 = 0", "traveller 0 3 = 0",
                "traveller 0 4 = 0", "traveller 1 4 = 0", "strength 0 0 0 = 30", "strength 1 0 0 = 0", "strength 1 2 0 = 9",
                "mark = 0");
        // What the new text doesn't tell isn't there, though the old one told it.
        lived().feeds(START).rows("border 40 = 1", "size 0 = 3", "size 1 = 1", "size 2 = 0", "size 3 = 0", "size 4 = 1",
                "size 5 = 0", "size 6 = 0", "size 7 = 0", "size 8 = 0", "size 9 = 0", "size 10 = 0", "traveller 0 0 ! 1",
                "smell 0 0 ! 1", "place 1 0 ! 1", "place 0 2 = 0", "been ! 6", "led 0 ! throws", "judge = -2");
        lived().feeds(MORE).rows("border " + MORE.length() + " = 2", "path 0 1 = -2", "strength 0 0 0 = 0", "walked 0 ! 6",
                "been ! 6", "wrongly = -2", "place 0 2 = 0");
    }

    // fault: "The FAULT of the latest border() not refused by 2; 0 without one".
    private static void faultOfTheLatest() {
        Script.empty().rows("fault = 0", "border 1 ! 2", "fault = 0").faulty(6, "^land").rows("fault = 6", "border 1 ! 2",
                "fault = 6", "judge ! 1", "fault = 6").faulty(4, "border wind ^9").rows("fault = 4").feeds(START)
                .rows("fault = 4", "border 41 ! 2", "fault = 4", "border 40 = 1", "fault = 0", "border -1 ! 2", "fault = 0")
                .faulty(1, "^").rows("fault = 1", "judge = -2", "fault = 1");
    }

    // where: "Its place, if the latest call that may be refused was by 4; NONE else".
    private static void whereOfTheLatest() {
        Script.empty().rows("where = -1", "border 1 ! 2", "where = -1").faulty(1, "border ^x").rows("where = 7", "where = 7",
                "fault = 1", "trouble = 4", "size 13 = 0", "size 99 = -1", "led 0 ! throws", "where = 7",
                "feed 1 2 3 4 5 = 20", "where = 7", "border 21 ! 2", "where = -1");
        Script.of(START).faulty(6, "  ^land").rows("where = 2", "judge = -2", "where = -1", "fault = 6");
        Script.of(START).faulty(6, "  ^land").rows("where = 2", "undo ! 6", "where = -1", "fault = 6");
        Script.of(START).faulty(6, "  ^land").feeds(START).rows("where = 2", "border 40 = 1", "where = -1");
    }
}
