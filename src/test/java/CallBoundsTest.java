import java.util.ArrayList;
import java.util.List;

/**
 * The boundary cases of "Terms" II to IV and of promises 6 to 46, a sentence of the document ahead of each: the last that
 * is allowed, and the first beyond it, on both sides. Script looks behind each row that nothing else has changed.
 */
public final class CallBoundsTest {
    private static final int[] TRAVELLER = {0, 3, 1};
    private static final int[] SMELL = {0, 5, 1};
    private static final int[] NOSE = {0, 1, 1};
    private static final int[] PLACE = {0, 4, 1};
    private static final int[] HOURS = {0, 99, 2};
    private static final int[] SEED = {0, 65536, 2};

    public static void main(String[] args) {
        arguments();
        withoutBorder();
        withNothingOf();
        now();
        fading();
        covering();
        smelling();
        duties();
        claims();
        howLong();
        walks();
        oddHalves();
        asked();
        likeWays();
        longestWays();
        rounds();
        covers();
        rowsOfPlaces();
        greaterStays();
        fewAndManyNoses();
        games();
        gameByTheFirstPlace();
        draws();
        waits();
        goes();
        sprays();
        washes();
        sixteenActs();
        threeMarks();
        ledOnes();
        sizes();
        troubles();
        to512Calls();
        Check.end("CallBoundsTest");
    }

    // The bounds of each argument, by which number a call is refused beyond them, and in which order.
    private static void arguments() {
        bounds("smell", new int[] {0, 0}, SMELL, new int[] {0, 2, 1});
        bounds("place", new int[] {0, 0}, PLACE, new int[] {0, 2, 1});
        bounds("traveller", new int[] {0, 0}, TRAVELLER, new int[] {0, 4, 1});
        bounds("path", new int[] {1, 2}, PLACE, PLACE);
        bounds("strength", new int[] {0, 0, 0}, TRAVELLER, SMELL, HOURS);
        bounds("covered", new int[] {0, 0, 0}, TRAVELLER, SMELL, HOURS);
        bounds("smelt", new int[] {0, 0, 0}, TRAVELLER, NOSE, HOURS);
        bounds("duty", new int[] {0, 1, 0}, TRAVELLER, PLACE, HOURS);
        bounds("claim", new int[] {0, 0}, TRAVELLER, HOURS);
        bounds("gone", new int[] {0, 0}, TRAVELLER, SMELL);
        bounds("mustWait", new int[] {0, 1}, TRAVELLER, PLACE);
        bounds("walked", new int[] {0}, TRAVELLER);
        bounds("walkedAt", new int[] {0, 0}, TRAVELLER, new int[] {0, 2, 1});
        bounds("quickest", new int[] {0, 1}, TRAVELLER, PLACE);
        bounds("cheapest", new int[] {0, 1}, TRAVELLER, PLACE);
        bounds("secret", new int[] {0, 1}, TRAVELLER, PLACE);
        // Of 4 and from 4 there is no WAY but that from 4 to 4, of one place.
        bounds("wayAt", new int[] {0, 0, 0, 0}, new int[] {0, 2, 1}, new int[] {0, 2, 1}, new int[] {0, 3, 1}, new int[] {0, 0, 1});
        bounds("wayAt", new int[] {2, 3, 4, 0}, new int[] {0, 2, 1}, new int[] {3, 3, 1}, new int[] {4, 4, 1}, new int[] {0, 0, 1});
        bounds("wayAt", new int[] {0, 0, 2, 0}, new int[] {0, 1, 1}, new int[] {0, 2, 1}, new int[] {0, 3, 1}, new int[] {0, 2, 1});
        bounds("cover", new int[] {0, 5, 1}, TRAVELLER, new int[] {5, 5, 1}, PLACE);
        bounds("beenAt", new int[] {0}, new int[] {0, 3, 1});
        bounds("postOf", new int[] {0}, PLACE);
        bounds("rests", new int[] {0, 1}, TRAVELLER, PLACE);
        bounds("rest", new int[] {0, 1}, TRAVELLER, PLACE);
        bounds("winds", new int[] {0, 0, 0}, TRAVELLER, SEED, HOURS);
        bounds("windDuty", new int[] {0, 1, 0, 0}, TRAVELLER, PLACE, SEED, HOURS);
        bounds("waits", new int[] {0, 1}, TRAVELLER, new int[] {1, 99, 2});
        bounds("go", new int[] {0, 1}, TRAVELLER, PLACE);
        bounds("spray", new int[] {0, 0, 5}, TRAVELLER, SMELL, new int[] {0, 99, 2});
        bounds("wash", new int[] {0}, TRAVELLER);
    }

    /** Of each argument the least and the greatest, and by which number it is refused beyond; the others are as the base. */
    private static void bounds(String name, int[] base, int[]... ranges) {
        List<String> refused = new ArrayList<>();
        for (int i = 0; i < ranges.length; i++) {
            int why = ranges[i][2];
            within(name, with(base, i, ranges[i][0]), why);
            within(name, with(base, i, ranges[i][1]), why);
            for (int beyond : new int[] {ranges[i][0] - 1, ranges[i][1] + 1, Integer.MIN_VALUE, Integer.MAX_VALUE}) {
                refused.add(name + with(base, i, beyond) + " ! " + why);
            }
            for (int j = 0; j < ranges.length; j++) {
                if (why == 1 && ranges[j][2] == 2) {
                    refused.add(name + with(base, i, ranges[i][1] + 1, j, ranges[j][1] + 1) + " ! 1");
                    refused.add(name + with(base, i, -1, j, -1) + " ! 1");
                }
            }
        }
        Script.of(PromisesTest.WORLD).rows(refused.toArray(new String[0]));
        // Once more with acts that can be undone, marks, and bytes on the tape.
        Script.of(PromisesTest.WORLD).rows("mark = 0", "waits 1 1 = 1", "spray 0 5 1 = 1", "mark = 1").feeds("border wind 3")
                .rows(refused.get(0), refused.get(refused.size() - 1));
    }

    private static String with(int[] base, int... changes) {
        int[] arguments = base.clone();
        for (int i = 0; i < changes.length; i += 2) {
            arguments[changes[i]] = changes[i + 1];
        }
        StringBuilder text = new StringBuilder();
        for (int argument : arguments) {
            text.append(' ').append(argument);
        }
        return text.toString();
    }

    /** It may be refused, but not for an argument that is out of bounds. */
    private static void within(String name, String arguments, int why) {
        Calls calls = new Calls();
        calls.tell(PromisesTest.WORLD);
        String[] words = arguments.trim().split(" ");
        int[] numbers = new int[words.length];
        for (int i = 0; i < words.length; i++) {
            numbers[i] = Integer.parseInt(words[i]);
        }
        calls.call(name, numbers);
        int trouble = calls.call("trouble");
        Check.due(name + arguments + " is within its bounds", trouble == why, false);
    }

    // Promise 1: "No BORDER". Whatever the other arguments are, 1 comes first; undo() has none to undo.
    private static void withoutBorder() {
        Script script = Script.empty();
        script.rows("trouble = 0", "fault = 0", "where = -1", "smell 0 0 ! 1", "place 0 0 ! 1", "traveller 0 0 ! 1",
                "path 0 1 ! 1", "strength 0 0 0 ! 1", "strength 0 0 100 ! 1", "covered 0 0 0 ! 1", "covered 0 0 -1 ! 1",
                "smelt 0 0 0 ! 1", "smelt 0 0 100 ! 1", "duty 0 0 0 ! 1", "duty 0 0 100 ! 1", "claim 0 0 ! 1",
                "claim 0 100 ! 1", "gone 0 0 ! 1", "mustWait 0 0 ! 1", "walked 0 ! 1", "walkedAt 0 0 ! 1", "judge ! 1",
                "wrongly ! 1", "quickest 0 0 ! 1", "cheapest 0 0 ! 1", "secret 0 0 ! 1", "wayAt 0 0 0 0 ! 1", "rounds ! 1",
                "cover 0 0 0 ! 1", "been ! 1", "could ! 1", "surely ! 1", "beenAt 0 ! 1", "beenAt 4 ! 1", "posts ! 1",
                "postOf 0 ! 1", "rests 0 0 ! 1", "rest 0 0 ! 1", "winds 0 0 0 ! 1", "winds 0 -1 100 ! 1",
                "windDuty 0 0 0 0 ! 1", "windDuty 0 0 65537 0 ! 1", "waits 0 1 ! 1", "waits 0 0 ! 1", "go 0 0 ! 1",
                "spray 0 0 0 ! 1", "spray 0 0 100 ! 1", "wash 0 ! 1", "undo ! 6", "mark ! 1", "back 0 ! 1",
                "led 0 ! throws", "border 1 ! 2");
        for (int what = 0; what <= 13; what++) {
            script.rows("size " + what + " = 0");
        }
        // A BORDER that is refused is none.
        Script.empty().faulty(6, "border wind 3;land a duty 1^").rows("judge ! 1", "mark ! 1", "posts ! 1", "size 0 = 0",
                "size 1 = 0");
    }

    // A BORDER with a land and a place, and nothing else.
    private static void withNothingOf() {
        Script.of("border wind 1;land a duty 0;place p in a").rows("judge = -2", "wrongly = -2", "rounds = 0", "posts = 0",
                "postOf 0 = -2", "postOf 1 ! 1", "been ! 6", "could ! 6", "surely ! 6", "beenAt 0 ! 6", "beenAt 4 ! 6",
                "beenAt -1 ! 6", "smell 0 0 ! 1", "place 0 0 = 0", "place 0 1 = -2", "place 0 2 = 0", "path 0 0 ! 1",
                "path 0 1 ! 1", "traveller 0 0 ! 1", "walked 0 ! 1", "quickest 0 0 ! 1", "rests 0 0 ! 1", "wash 0 ! 1",
                "led 0 ! throws", "undo ! 6", "mark = 0", "back 0 = 1", "back 1 ! 1", "size 12 = 1", "size 11 = 0");
        Script.of("border wind 1;land a duty 0;place p in a;traveller t child home a at p").rows("strength 0 0 0 ! 1",
                "smelt 0 0 0 ! 1", "duty 0 0 0 = 0", "claim 0 0 = -2", "mustWait 0 0 = 0", "walked 0 ! 6",
                "walkedAt 0 0 ! 6", "quickest 0 0 = 0", "cheapest 0 0 = 0", "secret 0 0 = 0", "wayAt 0 0 0 0 = 0",
                "wayAt 0 0 0 1 ! 1", "rests 0 0 ! 6", "rest 0 0 ! 6", "winds 0 65536 99 = 0", "windDuty 0 0 0 99 = 0",
                "go 0 0 ! 5", "wash 0 ! 5", "spray 0 0 1 ! 1", "waits 0 1 = 1", "undo = 1", "undo ! 6", "led 0 ! throws");
    }

    // Promises 6 to 9: each answer that there is, "-2", "1 (unlike)".
    private static void now() {
        Script.of("border wind 1;land a duty 0;land b duty 9;land c duty 1;land d duty 5;smell e plain from d"
                + ";smell f heavy from a;smell g cover from b;smell h burnt from c;smell i incense from b;smell j plain from a"
                + ";nose k skill 1;nose l skill 1;nose m skill 1;nose n skill 1;place o in d nose n;place p in a;place q in b"
                + ";place r in c;place s in a nose k;place t in d;path o p hours 1;path q o hours 40;path o r hours 2"
                + ";path s o hours 3;path o t hours 4;traveller u simple home d at t;traveller v soldier home a at o"
                + ";traveller w bride home b at p;traveller x child home c at q").rows("smell 0 0 = 0", "smell 1 0 = 1",
                "smell 2 0 = 2", "smell 3 0 = 3", "smell 4 0 = 4", "smell 0 1 = 3", "smell 1 1 = 0", "smell 2 1 = 1",
                "smell 3 1 = 2", "smell 0 2 = 5", "smell 1 2 = 0", "smell 2 2 = 9", "smell 5 0 = 0", "smell 5 2 = 0",
                "smell 6 0 ! 1", "place 0 0 = 3", "place 5 0 = 3", "place 0 1 = 3", "place 1 1 = -2", "place 4 1 = 0",
                "place 0 2 = 5", "place 5 2 = 1", "place 6 0 ! 1", "path 0 1 = 1", "path 1 0 = 1", "path 0 2 = 40",
                "path 2 0 = 40", "path 0 5 = 4", "path 1 2 = -2", "path 5 4 = -2", "path 0 0 ! 1", "path 5 5 ! 1",
                "path 5 6 ! 1", "path 6 6 ! 1", "path -1 -1 ! 1", "traveller 0 0 = 0", "traveller 1 0 = 1",
                "traveller 2 0 = 2", "traveller 3 0 = 3", "traveller 0 1 = 3", "traveller 1 1 = 0", "traveller 0 2 = 5",
                "traveller 1 2 = 0", "traveller 3 3 = 0", "traveller 3 4 = 0", "traveller 4 0 ! 1");
        Script.of("border wind 1;land a duty 1;place p in a;place q in a;path p q hours 7").rows("place 0 2 = 1",
                "place 1 2 = 1", "path 1 0 = 7");
    }

    // Smells 0 r, 1 h, 2 k, 3 x, 4 i, 5 o; the first has 99 of five of them on, the second 1.
    private static final String KINDS = "border wind 1;land a duty 1;land b duty 1;smell r plain from a;smell h heavy from a"
            + ";smell k cover from a;smell x burnt from a;smell i incense from a;smell o cover from b;place p in a"
            + ";traveller t simple home a at p;traveller u simple home a at p;on t r 99;on t h 99;on t k 99;on t x 99"
            + ";on t i 99;on u r 1;on u h 1;on u k 1;on u x 1;on u i 1";

    // "each hour takes 2 of them, of a heavy one or incense 1, of a burnt one 4; at least 0; STRENGTH is half, downwards".
    private static void fading() {
        Script.of(KINDS).rows("strength 0 0 0 = 99", "strength 0 0 1 = 98", "strength 0 0 98 = 1", "strength 0 0 99 = 0",
                "strength 0 1 0 = 99", "strength 0 1 1 = 98", "strength 0 1 2 = 98", "strength 0 1 3 = 97",
                "strength 0 1 99 = 49", "strength 0 2 1 = 98", "strength 0 2 98 = 1", "strength 0 2 99 = 0",
                "strength 0 3 1 = 97", "strength 0 3 49 = 1", "strength 0 3 50 = 0", "strength 0 3 99 = 0",
                "strength 0 4 1 = 98", "strength 0 4 2 = 98", "strength 0 4 99 = 49", "strength 0 5 0 = 0",
                "strength 0 5 99 = 0", "strength 1 0 0 = 1", "strength 1 0 1 = 0", "strength 1 1 0 = 1",
                "strength 1 1 1 = 0", "strength 1 1 2 = 0", "strength 1 2 1 = 0", "strength 1 3 0 = 1",
                "strength 1 3 1 = 0", "strength 1 3 99 = 0", "strength 1 4 1 = 0");
        // The same, gone by: what was taken is taken, and nothing less than 0 is left.
        Script.of(KINDS).rows("waits 0 49 = 49", "strength 0 0 0 = 50", "strength 0 1 0 = 74", "strength 0 3 0 = 1",
                "waits 0 1 = 50", "strength 0 3 0 = 0", "strength 0 1 0 = 74", "waits 0 50 = 100", "strength 0 0 0 = 0",
                "strength 0 1 0 = 49", "spray 0 3 0 ! 5", "spray 0 0 0 ! 5", "strength 0 3 99 = 0");
    }

    // "half the greatest STRENGTH of a cover on him, downwards; at least 0"; covered(): "of a cover its STRENGTH".
    private static void covering() {
        String world = "border wind 1;land a duty 1;smell r plain from a;smell k cover from a;smell o cover from a"
                + ";smell x burnt from a;place p in a;traveller t simple home a at p;on t r 10;on t x 3";
        Script.of(world).rows("covered 0 0 0 = 10", "covered 0 1 0 = 0", "spray 0 1 1 = 1", "covered 0 0 0 = 10",
                "spray 0 1 2 = 1", "covered 0 0 0 = 9", "spray 0 1 3 = 1", "covered 0 0 0 = 9", "spray 0 1 4 = 1",
                "covered 0 0 0 = 8", "covered 0 3 0 = 1", "spray 0 1 18 = 1", "covered 0 0 0 = 1", "spray 0 1 19 = 1",
                "covered 0 0 0 = 1", "spray 0 1 20 = 1", "covered 0 0 0 = 0", "spray 0 1 22 = 1", "covered 0 0 0 = 0",
                "covered 0 3 0 = 0", "spray 0 1 99 = 1", "covered 0 0 0 = 0", "covered 0 1 0 = 99", "covered 0 2 0 = 0");
        // The greatest of two, not both together; behind hours, of what is left then.
        Script.of(world).rows("spray 0 1 4 = 1", "spray 0 2 5 = 1", "covered 0 0 0 = 8", "covered 0 1 0 = 4",
                "covered 0 2 0 = 5", "spray 0 1 6 = 1", "covered 0 0 0 = 7", "covered 0 0 1 = 7", "covered 0 0 2 = 6",
                "covered 0 0 3 = 6", "covered 0 0 4 = 5", "covered 0 0 5 = 5", "covered 0 0 6 = 4", "covered 0 0 9 = 1",
                "covered 0 0 10 = 0", "covered 0 0 99 = 0", "covered 0 1 5 = 1", "covered 0 1 6 = 0", "covered 0 2 99 = 0");
        // Half of STRENGTH, which is half of HALVES: of 7 of these 3, of 3 1.
        Script.of(world).rows("spray 0 1 7 = 1", "wash 0 = 1", "strength 0 1 0 = 3", "strength 0 0 0 = 5",
                "covered 0 0 0 = 4", "wash 0 = 1", "strength 0 1 0 = 1", "strength 0 0 0 = 2", "covered 0 0 0 = 2");
    }

    // "SMELT by a nose: what is COVERED still so much as its skill, or more".
    private static void smelling() {
        String world = "border wind 1;land a duty 1;smell r plain from a;smell k cover from a;smell o cover from a"
                + ";smell x burnt from a;smell i incense from a;smell h heavy from a;nose n skill 1;nose m skill 60"
                + ";nose l skill 5;place p in a;traveller t simple home a at p;on t r 10";
        Script.of(world).rows("smelt 0 0 0 = 1", "smelt 0 1 0 = 0", "smelt 0 2 0 = 1", "smelt 0 2 5 = 1", "smelt 0 2 6 = 0",
                "smelt 0 0 9 = 1", "smelt 0 0 10 = 0", "smelt 0 0 99 = 0", "spray 0 0 59 = 1", "smelt 0 1 0 = 0",
                "spray 0 0 60 = 1", "smelt 0 1 0 = 1", "smelt 0 1 1 = 0", "spray 0 0 61 = 1", "spray 0 1 2 = 1",
                "smelt 0 1 0 = 1", "smelt 0 1 1 = 1", "smelt 0 1 2 = 0", "spray 0 1 4 = 1", "smelt 0 1 0 = 0",
                "spray 0 1 60 = 1", "smelt 0 1 0 = 2", "spray 0 2 60 = 1", "smelt 0 1 0 = 6", "spray 0 1 59 = 1",
                "smelt 0 1 0 = 4", "smelt 0 1 1 = 0");
        Script.of(world).rows("spray 0 0 2 = 1", "spray 0 1 2 = 1", "smelt 0 0 0 = 3", "spray 0 1 4 = 1", "smelt 0 0 0 = 2",
                "spray 0 0 0 = 1", "spray 0 1 0 = 1", "smelt 0 0 0 = 0", "spray 0 0 1 = 1", "spray 0 1 1 = 1",
                "spray 0 2 1 = 1", "spray 0 3 1 = 1", "spray 0 4 1 = 1", "spray 0 5 1 = 1", "smelt 0 0 0 = 63",
                "smelt 0 0 1 = 0", "smelt 0 1 0 = 0", "smelt 0 3 0 ! 1");
    }

    // Smells 0 r, 1 h, 2 k, 3 x, 4 i, 5 z. Places 0 p without a nose, 1 q and 2 s with one of 1, 3 v with one of 60.
    private static final String TOLLS = "border wind 1;land a duty 9;land b duty 0;land c duty 1;smell r plain from a"
            + ";smell h heavy from c;smell k cover from a;smell x burnt from a;smell i incense from a;smell z plain from b"
            + ";nose n skill 1;nose m skill 60;place p in b;place q in b nose n;place s in a nose n;place v in c nose m"
            + ";traveller t simple home a at p;traveller u soldier home a at p;traveller w bride home a at p"
            + ";traveller y child home a at p";

    // "of a burnt one, of incense nothing; together; of a soldier twice, of a bride half, downwards, of a child nothing".
    private static void duties() {
        int[][] asked = {{1, 2, 0, 0}, {2, 4, 1, 0}, {3, 6, 1, 0}, {4, 8, 2, 0}};
        for (int strong = 1; strong <= 4; strong++) {
            Script script = Script.of(TOLLS);
            for (int t = 0; t < 4; t++) {
                script.rows("spray " + t + " 1 " + strong + " = 1", "duty " + t + " 1 0 = " + asked[strong - 1][t],
                        "duty " + t + " 3 0 = 0", "duty " + t + " 0 0 = 0", "duty " + t + " 2 0 = " + asked[strong - 1][t]);
            }
        }
        // Half of all together: of 9 and 1, not of each.
        Script.of(TOLLS).rows("spray 2 0 1 = 1", "duty 2 1 0 = 4", "spray 2 1 1 = 1", "duty 2 1 0 = 5", "duty 2 2 0 = 0");
        // By its skill, and of its own land nothing; at a place without a nose 0.
        Script.of(TOLLS).rows("spray 0 0 59 = 1", "duty 0 3 0 = 0", "spray 0 0 60 = 1", "duty 0 3 0 = 540",
                "duty 0 3 1 = 0", "duty 0 2 0 = 0", "duty 0 0 0 = 0", "duty 0 1 0 = 540", "duty 0 1 59 = 9",
                "duty 0 1 60 = 0", "spray 2 0 61 = 1", "duty 2 3 0 = 274", "spray 1 0 99 = 1", "duty 1 3 0 = 1782",
                "duty 1 3 99 = 0", "spray 3 0 99 = 1", "duty 3 3 0 = 0");
        // Burnt ones and incense; a land without duty; all at once, of which a cover covers 49.
        Script.of(TOLLS).rows("spray 1 3 99 = 1", "duty 1 1 0 = 0", "spray 1 4 99 = 1", "duty 1 1 0 = 0", "spray 1 5 99 = 1",
                "duty 1 2 0 = 0", "duty 1 1 0 = 0", "spray 1 0 99 = 1", "spray 1 1 99 = 1", "spray 1 2 99 = 1",
                "duty 1 1 0 = 2782", "duty 1 2 0 = 100", "duty 1 3 0 = 1782");
        // The most that can be: six smells of 99 by a duty of 9, twice.
        Script.of("border wind 5;land a duty 9;land b duty 0;smell c plain from a;smell d plain from a;smell e plain from a"
                + ";smell f heavy from a;smell g plain from a;smell h heavy from a;nose n skill 60;place p in b nose n"
                + ";traveller t soldier home a at p;on t c 99;on t d 99;on t e 99;on t f 99;on t g 99;on t h 99").rows("duty 0 0 0 = 10692",
                "smelt 0 0 0 = 63", "winds 0 0 0 = 594", "windDuty 0 0 65536 0 = 10692", "claim 0 0 = 0", "mustWait 0 0 = 79",
                "duty 0 0 39 = 7164", "duty 0 0 40 = 2844", "duty 0 0 78 = 2160", "duty 0 0 79 = 0");
    }

    // "CLAIM: .. (burnt ones aside) together; none, if two have as much, or nothing is".
    private static void claims() {
        Script.of(TOLLS).rows("claim 0 0 = -2", "spray 0 1 1 = 1", "claim 0 0 = 2", "claim 0 1 = -2", "spray 0 0 1 = 1",
                "claim 0 0 = -2", "spray 0 0 2 = 1", "claim 0 0 = 0", "claim 0 1 = 0", "claim 0 2 = -2", "spray 0 0 1 = 1",
                "spray 0 5 1 = 1", "claim 0 0 = -2", "spray 0 5 2 = 1", "claim 0 0 = 1", "spray 0 5 1 = 1",
                "spray 0 1 2 = 1", "claim 0 0 = 2", "spray 0 1 1 = 1", "spray 0 0 2 = 1", "claim 0 0 = 0");
        Script.of(TOLLS).rows("spray 0 3 99 = 1", "claim 0 0 = -2", "spray 0 1 1 = 1", "claim 0 0 = 2", "spray 0 4 1 = 1",
                "claim 0 0 = -2", "spray 0 4 2 = 1", "claim 0 0 = 0", "spray 1 2 1 = 1", "claim 1 0 = 0");
        // What is COVERED, not STRENGTH: 4 of a cover from a take 2 from h.
        Script.of(TOLLS).rows("spray 0 2 4 = 1", "spray 0 1 5 = 1", "claim 0 0 = 0", "spray 0 1 6 = 1", "claim 0 0 = -2",
                "spray 0 1 7 = 1", "claim 0 0 = 2", "claim 0 99 = -2", "claim 0 100 ! 2", "claim 0 -1 ! 2");
        // All of a land together: 2 and 2 against 3, against 4.
        Script.of(TOLLS).rows("spray 0 0 2 = 1", "spray 0 4 2 = 1", "spray 0 1 3 = 1", "claim 0 0 = 0", "spray 0 1 4 = 1",
                "claim 0 0 = -2", "spray 0 1 5 = 1", "claim 0 0 = 2");
    }

    // gone, mustWait: "how many hours (0 .. 200)", "the least".
    private static void howLong() {
        Script.of(KINDS).rows("gone 0 0 = 99", "gone 0 1 = 197", "gone 0 2 = 99", "gone 0 3 = 50", "gone 0 4 = 197",
                "gone 0 5 = 0", "gone 1 0 = 1", "gone 1 1 = 1", "gone 1 2 = 1", "gone 1 3 = 1", "gone 1 4 = 1",
                "waits 0 99 = 99", "gone 0 1 = 98", "gone 0 0 = 0", "waits 0 97 = 196", "strength 0 1 0 = 1", "gone 0 1 = 1",
                "waits 0 1 = 197", "strength 0 1 0 = 0", "gone 0 1 = 0");
        // Of what he doesn't have on, of each KIND, 0.
        Script.of(TOLLS).rows("gone 0 0 = 0", "gone 0 1 = 0", "gone 0 2 = 0", "gone 0 3 = 0", "gone 0 4 = 0", "gone 3 5 = 0");
        Script.of(TOLLS).rows("mustWait 0 1 = 0", "spray 0 1 99 = 1", "mustWait 0 1 = 197", "mustWait 0 0 = 0",
                "mustWait 0 3 = 0", "mustWait 0 2 = 197", "spray 1 1 99 = 1", "mustWait 1 1 = 197", "spray 2 1 99 = 1",
                "mustWait 2 1 = 195", "spray 3 1 99 = 1", "mustWait 3 1 = 0", "spray 0 1 1 = 1", "mustWait 0 1 = 1",
                "spray 0 0 59 = 1", "mustWait 0 3 = 0", "spray 0 0 60 = 1", "mustWait 0 3 = 1", "spray 0 0 99 = 1",
                "mustWait 0 3 = 40", "mustWait 0 1 = 99");
        // The least, though behind it something would be asked again: COVERED is 5, 4, 5.
        Script.of("border wind 1;land a duty 1;land b duty 0;smell h heavy from a;smell k cover from b;nose n skill 5"
                + ";place p in b nose n;traveller t simple home a at p;on t h 10;on t k 11").rows("duty 0 0 0 = 5",
                "duty 0 0 1 = 0", "duty 0 0 2 = 5", "mustWait 0 0 = 1", "waits 0 1 = 1", "mustWait 0 0 = 0");
    }

    // Behind 2 hours each: 18, 16, 14, 12, 10. Where he begins there is a nose, too.
    private static final String WALKERS = "border wind 1;land a duty 1;land b duty 1;smell r plain from a;nose n skill 1"
            + ";place p in b nose n;place q in b nose n;place s in b;path p q hours 2;path q s hours 3"
            + ";leaves p r 60;leaves q r 60;traveller t simple home a at p;traveller u simple home a at p"
            + ";traveller v simple home a at p;traveller w simple home a at s;on t r 20;on u r 20;on v r 20"
            + ";walk t q,p,q,p,q;walk u p;walk v q,s,p";

    // "It can't be if there is no such path"; "1 (no such traveller); 6; 1 (i); 5 (it can't be)"; judge: "-2".
    private static void walks() {
        Script.of(WALKERS).rows("walked 0 = 70", "walkedAt 0 0 = 18", "walkedAt 0 1 = 16", "walkedAt 0 4 = 10",
                "walkedAt 0 5 ! 1", "walkedAt 0 -1 ! 1", "walked 1 = -2", "walkedAt 1 0 ! 5", "walkedAt 1 1 ! 1",
                "walkedAt 1 -1 ! 1", "walked 2 = -2", "walkedAt 2 0 ! 5", "walkedAt 2 2 ! 5", "walkedAt 2 3 ! 1",
                "walkedAt 2 max ! 1", "walked 3 ! 6", "walkedAt 3 0 ! 6", "walkedAt 3 -1 ! 6", "walkedAt 3 max ! 6",
                "walkedAt 4 0 ! 1", "walkedAt -1 -1 ! 1", "judge = 1", "go 1 1 = 18", "walked 1 = 16", "walkedAt 1 0 = 16",
                "judge = 2", "go 0 1 = 18", "walked 0 = -2", "walkedAt 0 0 ! 5", "judge = 0", "undo = 1", "judge = 2");
        Script.of(WALKERS.replace(";walk u p;walk v q,s,p", ";walk w q")).rows("judge = -2", "walked 3 = 0", "walked 1 ! 6",
                "go 3 1 = 0", "judge = 3");
        // Places leave nothing on him, and nothing is asked of him whom nothing is smelt on.
        Script.of(WALKERS).rows("waits 0 20 = 20", "walked 0 = 0", "walkedAt 0 4 = 0", "waits 2 99 = 99", "walked 2 = -2");
    }

    // "STRENGTH is half of them, downwards", wherever DUTY is asked: behind an hour each of 40 halves 39, 38, 37 are left.
    private static void oddHalves() {
        Script.of("border wind 1;land a duty 1;land b duty 1;smell h heavy from a;nose n skill 1;place p in b nose n"
                + ";place q in b nose n;path p q hours 1;traveller t simple home a at p;on t h 20;walk t q,p,q").rows("walked 0 = 56",
                "walkedAt 0 0 = 19", "walkedAt 0 1 = 19", "walkedAt 0 2 = 18", "cheapest 0 1 = 19", "rest 0 1 = 19", "posts = 19",
                "duty 0 1 1 = 19", "windDuty 0 1 0 1 = 19", "go 0 1 = 19", "cheapest 0 0 = 19", "go 0 0 = 19", "rest 0 1 = 18",
                "go 0 1 = 18", "led 0 = 0");
    }

    // wrongly: "The first asked, as told, that isn't what the traveller's WALK comes to (nor if none is told, it can't be)".
    private static void asked() {
        Script.of(WALKERS).rows("wrongly = -2");
        Script.of(WALKERS + ";asked t 70;asked t 70;asked t 70;asked t 70").rows("wrongly = -2", "waits 0 1 = 1", "wrongly = 0",
                "undo = 1", "wrongly = -2");
        Script.of(WALKERS + ";asked t 70;asked t 70;asked t 70;asked t 71").rows("wrongly = 3");
        Script.of(WALKERS + ";asked t 70;asked t 69;asked t 70;asked t 71").rows("wrongly = 1");
        Script.of(WALKERS + ";asked t 0").rows("wrongly = 0", "waits 0 20 = 20", "wrongly = -2");
        Script.of(WALKERS + ";asked t 70;asked u 0").rows("wrongly = 1", "go 1 1 = 18", "wrongly = 1");
        Script.of(WALKERS + ";asked t 70;asked u 16").rows("wrongly = 1", "go 1 1 = 18", "wrongly = -2");
        Script.of(WALKERS + ";asked v 18").rows("wrongly = 0");
        Script.of(WALKERS + ";asked w 0").rows("wrongly = 0");
    }

    // "places along paths, none twice"; "of like ones each the first by places' numbers".
    private static void likeWays() {
        String world = "border wind 1;land a duty 1;land b duty 1;smell c plain from a;nose n skill 1;place p in b"
                + ";place q in b;place r in b;place s in b;path p s hours 4;path r s hours 2;path p r hours 2;path q s hours 2"
                + ";path p q hours 2;traveller t simple home a at p;on t c 9";
        for (int kind = 0; kind < 3; kind++) {
            Script.of(world).rows("wayAt " + kind + " 0 3 0 = 0", "wayAt " + kind + " 0 3 1 = 1", "wayAt " + kind + " 0 3 2 = 3",
                    "wayAt " + kind + " 0 3 3 ! 1", "wayAt " + kind + " 0 0 0 = 0", "wayAt " + kind + " 0 0 1 ! 1",
                    "quickest 0 3 = 4", "cheapest 0 3 = 0", "secret 0 3 = 4", "quickest 0 0 = 0", "rounds = 0");
            Script.of(world.replace("path q s hours 2", "path q s hours 3")).rows("wayAt " + kind + " 0 3 1 = 2",
                    "wayAt " + kind + " 0 3 2 = 3", "quickest 0 3 = 4");
            Script.of(world.replace("path p s hours 4", "path p s hours 3")).rows("wayAt " + kind + " 0 3 1 = 3",
                    "wayAt " + kind + " 0 3 2 ! 1", "quickest 0 3 = 3");
        }
        // CHEAPEST: of like DUTY fewest hours, SECRET: with none. By q 7 and 5 are asked, by r 5 at s alone, as by p s.
        String nosed = world.replace("place q in b", "place q in b nose n").replace("place s in b", "place s in b nose n");
        Script.of(nosed).rows("quickest 0 3 = 4", "wayAt 0 0 3 1 = 1", "cheapest 0 3 = 5", "wayAt 1 0 3 1 = 2", "secret 0 3 = -2",
                "wayAt 2 0 3 0 ! 1", "rounds = 1", "secret 0 1 = -2", "secret 0 2 = 2", "secret 0 0 = 0");
        Script.of(nosed.replace("path p s hours 4", "path p s hours 5")).rows("cheapest 0 3 = 4", "wayAt 1 0 3 1 = 3",
                "wayAt 1 0 3 2 ! 1", "quickest 0 3 = 4", "wayAt 0 0 3 1 = 1");
        // Nine hours: nothing is left to be asked for.
        Script.of(nosed.replace("path p s hours 4", "path p s hours 8")).rows("secret 0 3 = -2", "cheapest 0 3 = 1");
        Script.of(nosed.replace("path p s hours 4", "path p s hours 9")).rows("secret 0 3 = 9", "wayAt 2 0 3 1 = 3",
                "cheapest 0 3 = 0", "quickest 0 3 = 4");
    }

    // "-2 there is none"; wayAt: "1": a WAY of one place and of all six; the i-th on both sides.
    private static void longestWays() {
        String row = "border wind 1;land a duty 1;place p in a;place q in a;place r in a;place s in a;place u in a;place v in a"
                + ";path p q hours 40;path q r hours 40;path r s hours 40;path s u hours 40;path u v hours 40"
                + ";traveller t simple home a at p";
        for (int kind = 0; kind < 3; kind++) {
            Script script = Script.of(row);
            for (int i = 0; i < 6; i++) {
                script.rows("wayAt " + kind + " 0 5 " + i + " = " + i);
            }
            script.rows("wayAt " + kind + " 0 5 6 ! 1", "wayAt " + kind + " 0 5 -1 ! 1", "wayAt " + kind + " 0 6 0 ! 1",
                    "wayAt " + kind + " 1 5 0 ! 1", "wayAt 3 0 5 0 ! 1", "wayAt -1 0 5 0 ! 1", "quickest 0 5 = 200",
                    "secret 0 5 = 200", "cheapest 0 5 = 0");
        }
        // 40 hours five times: of 99 heavy ones 19 are left behind 160, none behind 200.
        String heavy = row.replace("land a duty 1", "land a duty 1;land b duty 1;smell h heavy from b;nose n skill 1")
                .replace("place v in a", "place v in a nose n") + ";on t h 99;walk t q,r,s,u,v";
        Script.of(heavy).rows("quickest 0 5 = 200", "secret 0 5 = 200", "cheapest 0 5 = 0", "walked 0 = 0", "mustWait 0 5 = 197",
                "rest 0 5 = 79", "rests 0 5 = 1");
        Script.of(heavy.replace("place u in a", "place u in a nose n")).rows("cheapest 0 4 = 19", "cheapest 0 5 = 19",
                "secret 0 5 = -2", "secret 0 4 = -2", "secret 0 3 = 120", "walked 0 = 19", "walkedAt 0 3 = 19", "walkedAt 0 4 = 0");
        Script.of(row.replace(";path q r hours 40", "")).rows("quickest 0 1 = 40", "quickest 0 2 = -2", "cheapest 0 2 = -2",
                "secret 0 2 = -2", "wayAt 0 0 2 0 ! 1", "wayAt 1 0 2 0 ! 1", "wayAt 2 0 2 0 ! 1", "rounds = 0");
        // Sixteen WAYS, by five places to each: a path between each two of five places, and one place without.
        String five = "border wind 1;land a duty 1;place p in a;place q in a;place r in a;place s in a;place u in a;place v in a"
                + ";path p q hours 9;path p r hours 1;path p s hours 1;path p u hours 9;path q r hours 9;path q s hours 1"
                + ";path q u hours 1;path r s hours 9;path r u hours 9;path s u hours 9;traveller t simple home a at p";
        Script.of(five).rows("quickest 0 4 = 3", "wayAt 0 0 4 1 = 3", "wayAt 0 0 4 2 = 1", "wayAt 0 0 4 3 = 4",
                "wayAt 0 0 4 4 ! 1", "quickest 0 5 = -2", "rests 0 4 = 80", "rest 0 4 = 0");
        // Twenty WAYS, the most that ten paths allow between two of six places.
        Script.of("border wind 1;land a duty 1;place p in a;place q in a;place r in a;place s in a;place u in a;place v in a"
                + ";path p q hours 1;path p r hours 1;path q r hours 1;path q s hours 1;path q u hours 1;path r s hours 1"
                + ";path r u hours 1;path s u hours 1;path s v hours 1;path u v hours 1;traveller t simple home a at p").rows(
                "size 5 = 10", "rests 0 5 = 100", "rest 0 5 = 0", "quickest 0 5 = 3", "wayAt 0 0 5 1 = 1", "wayAt 0 0 5 2 = 3",
                "wayAt 0 0 5 3 = 5", "wayAt 0 0 5 4 ! 1");
    }

    // "ROUND: CHEAPEST has less DUTY than QUICKEST": less, not as much.
    private static void rounds() {
        String world = "border wind 1;land a duty 1;land b duty 1;smell c plain from a;nose n skill 1;nose m skill 8"
                + ";place p in b;place q in b nose n;place r in b;place s in b;path p q hours 1;path q s hours 1"
                + ";path p r hours 1;path r s hours 2;traveller t simple home a at p;traveller u simple home a at p;on t c ";
        // To s by r, and to q by r and s.
        Script.of(world + "2").rows("rounds = 2", "cheapest 0 3 = 0", "cheapest 0 1 = 0", "quickest 0 3 = 2");
        Script.of(world + "1").rows("rounds = 0");
        Script.of(world + "2;on u c 2").rows("rounds = 4");
        Script.of(world.replace("place r in b", "place r in b nose n") + "2").rows("cheapest 0 3 = 1", "rounds = 0");
        // To q itself, by r and s: 4 hours, in which 4 are gone; by the path to it 1.
        Script.of(world + "9").rows("cheapest 0 1 = 5", "rounds = 2");
        // From s, the last place, to p, the first one, and to q.
        Script.of(world.replace("t simple home a at p", "t simple home a at s") + "2").rows("cheapest 0 0 = 0", "rounds = 2");
    }

    // "the least STRENGTH (0 .. 99) of a cover smell .. in place of what he has of it"; "-2 it can't be (no WAY, too)".
    private static void covers() {
        String world = "border wind 1;land a duty 1;land b duty 0;land c duty 1;smell s plain from a;smell k cover from b"
                + ";smell o cover from c;nose n skill 5;place p in b nose n;place q in b nose n;place r in b;path p q hours 1"
                + ";traveller t simple home a at p;traveller u child home a at p;on t s 54;on u s 99";
        Script.of(world).rows("cover 0 1 1 = 99", "spray 0 0 55 = 1", "cover 0 1 1 = -2", "spray 0 0 5 = 1", "cover 0 1 1 = 0",
                "spray 0 0 6 = 1", "cover 0 1 1 = 3", "spray 0 0 7 = 1", "cover 0 1 1 = 5", "cover 0 1 0 = 0",
                "cover 0 1 2 = -2", "cover 0 0 1 ! 1", "cover 0 3 1 ! 1", "cover 0 -1 1 ! 1", "cover 2 1 1 ! 1",
                "cover 0 1 3 ! 1", "cover 0 1 -1 ! 1", "spray 0 1 50 = 1", "cover 0 1 1 = 5", "strength 0 1 0 = 50",
                "cover 1 1 1 = 0");
        // Of a cover that is asked for itself, 5 are too much at q: 6 NOW.
        Script.of(world).rows("spray 0 0 7 = 1", "cover 0 2 1 = 5", "spray 0 0 8 = 1", "cover 0 2 1 = -2", "cover 0 1 1 = 7");
        // What he has of another cover covers, too.
        Script.of(world).rows("spray 0 1 99 = 1", "cover 0 2 1 = 0", "spray 0 0 55 = 1", "cover 0 2 1 = -2");
        // Had on, it is so; one less is not enough.
        Script.of(world).rows("spray 0 0 7 = 1", "spray 0 1 5 = 1", "go 0 1 = 0");
        Script.of(world).rows("spray 0 0 7 = 1", "spray 0 1 4 = 1", "go 0 1 = 5");
    }

    // BEEN: "through 1 to 4 places, none twice"; "0, if there are none"; beenAt: "(0 .. 3)", "-2", "likewise; 1 (i)".
    private static void rowsOfPlaces() {
        String line = "border wind 1;land a duty 1;smell s plain from a;place p in a;place q in a;place r in a;place v in a"
                + ";place w in a;path p q hours 1;path q r hours 1;path r v hours 1;path v w hours 1;leaves p s 60;whiff s ";
        Script.of(line + "60").rows("been = 4", "could = 15", "surely = 1", "beenAt 0 = 0", "beenAt 1 = -2", "beenAt 3 = -2",
                "beenAt 4 ! 1", "beenAt -1 ! 1");
        Script.of(line + "59").rows("been = 1", "could = 3", "surely = 3", "beenAt 0 = 0", "beenAt 1 = 1", "beenAt 2 = -2");
        Script.of(line + "58").rows("been = 1", "surely = 7", "beenAt 2 = 2", "beenAt 3 = -2");
        Script.of(line + "57").rows("been = 1", "could = 15", "surely = 15", "beenAt 0 = 0", "beenAt 2 = 2", "beenAt 3 = 3",
                "beenAt 4 ! 1", "beenAt max ! 1", "beenAt min ! 1");
        Script.of(line + "56").rows("been = 0", "could = 0", "surely = 0", "beenAt 0 = -2", "beenAt 3 = -2", "beenAt 4 ! 1");
        // Without p: four of one place, six of two, four of three, two of four.
        Script.of(line + "0").rows("been = 16", "could = 30", "surely = 0", "beenAt 0 = 1", "beenAt 1 = -2");
        Script.of(line.replace(";whiff s ", "")).rows("been ! 6", "could ! 6", "surely ! 6", "beenAt 0 ! 6", "beenAt 4 ! 6",
                "beenAt -1 ! 6");
        // All whiffs told must be so, and of a smell without one nothing is asked.
        Script.of(line + "60;smell z plain from a;whiff z 0").rows("been = 4");
        Script.of(line + "60;smell z plain from a;whiff z 1").rows("been = 0");
        Script.of(line + "60;smell z plain from a;leaves p z 7").rows("been = 4");
        // Each call by itself, and behind another text.
        Script.of(line + "60").rows("could = 15");
        Script.of(line + "60").rows("surely = 1");
        Script.of(line + "60").rows("beenAt 0 = 0");
        Script.of(line + "60").rows("could = 15", "beenAt 0 = 0").feeds(line + "59").rows("border " + (line.length() + 2) + " = 5",
                "could = 3", "surely = 3", "beenAt 1 = 1").feeds(line + "56").rows("border " + (line.length() + 2) + " = 5",
                "could = 0", "surely = 0", "beenAt 0 = -2");
        // Of rows of as many places the first by numbers; he may begin at whichever, nothing fades behind the last.
        Script.of("border wind 1;land a duty 1;smell s burnt from a;place p in a;place q in a;place r in a;path r p hours 2"
                + ";path q r hours 3;leaves r s 4;leaves q s 4;whiff s 4").rows("been = 6", "beenAt 0 = 1", "beenAt 1 = -2",
                "could = 7", "surely = 0");
        Script.of("border wind 1;land a duty 1;smell s burnt from a;place p in a;place q in a;path p q hours 1;leaves p s 1"
                + ";whiff s 0").rows("been = 2", "could = 3", "surely = 2", "beenAt 0 = 1", "beenAt 1 = -2");
    }

    // "where he has some of it already, the greater one stays": greater in HALVES.
    private static void greaterStays() {
        Script.of("border wind 1;land a duty 1;smell h heavy from a;place p in a;place q in a;place r in a;path p q hours 1"
                + ";path q r hours 1;leaves p h 10;leaves q h 9;whiff h 9").rows("been = 4", "could = 7", "surely = 2",
                "beenAt 0 = 1", "beenAt 1 = -2");
        String two = "border wind 1;land a duty 1;smell s plain from a;place p in a;place q in a;path p q hours 2;leaves p s 20"
                + ";leaves q s ";
        Script.of(two + "17;whiff s 18").rows("been = 1", "beenAt 0 = 0", "beenAt 1 = 1");
        Script.of(two + "18;whiff s 18").rows("been = 2", "beenAt 0 = 1", "beenAt 1 = -2");
        Script.of(two + "19;whiff s 19").rows("been = 2", "surely = 2");
        Script.of(two + "19;whiff s 18").rows("been = 0");
    }

    // POSTS: "no nose twice (where there are fewer noses, the last places have none)", "of like ones the first".
    private static void fewAndManyNoses() {
        String start = "border wind 1;land a duty 1;land b duty 1;smell r plain from a";
        String end = ";path p q hours 1;path q s hours 1;traveller t simple home a at p;on t r 11;walk t q,s";
        // q 10, s 9: by noses of 9 and 10 both, if that of 10 is at q; told are 60 and 60.
        Script.of(start + ";nose n skill 9;nose m skill 10;nose l skill 60;place p in b;place q in b nose l;place s in b nose l"
                + end).rows("walked 0 = 0", "posts = 19", "postOf 0 = -2", "postOf 1 = 1", "postOf 2 = 0", "postOf 3 ! 1",
                "postOf -1 ! 1");
        // One nose for two places: the last has none, though more would be asked there.
        Script.of(start + ";nose n skill 11;place p in b;place q in b nose n;place s in b nose n" + end).rows("posts = 0",
                "postOf 1 = 0", "postOf 2 = -2");
        Script.of(start + ";nose n skill 1;place p in b;place q in a nose n;place s in b nose n" + end).rows("walked 0 = 9",
                "posts = 0", "postOf 1 = 0", "postOf 2 = -2");
        Script.of(start + ";nose n skill 1;place p in b;place q in b;place s in b nose n" + end).rows("posts = 9", "postOf 1 = -2",
                "postOf 2 = 0");
        // As many as places, and like ones: by places in order, the first noses first.
        Script.of(start + ";nose n skill 1;nose m skill 1;place p in b;place q in b nose m;place s in b nose n" + end).rows(
                "posts = 19", "postOf 1 = 0", "postOf 2 = 1");
        // Two for three places, of which he begins at the first.
        Script.of(start + ";nose n skill 10;nose m skill 11;place p in b nose n;place q in b nose n;place s in b nose n" + end)
                .rows("walked 0 = 10", "posts = 10", "postOf 0 = 1", "postOf 1 = 0", "postOf 2 = -2");
        // No nose is told; no walk is; a walk that can't be doesn't count.
        Script.of(start + ";place p in b;place q in b;place s in b" + end).rows("posts = 0", "postOf 0 = -2", "postOf 2 = -2");
        Script.of(start + ";nose n skill 1;nose m skill 2;place p in b nose m").rows("posts = 0", "postOf 0 = 0");
        Script.of(start + ";nose n skill 1;place p in b;place q in b nose n;place s in b" + end.replace("walk t q,s", "walk t q,p"))
                .rows("posts = 10", "go 0 1 = 10", "posts = 0", "postOf 1 = 0");
        // Of all walks together.
        Script.of(start + ";nose n skill 1;place p in b;place q in b nose n;place s in b" + end.replace("walk t q,s", "walk t q")
                + ";traveller u soldier home a at p;on u r 6;walk u q;traveller v child home a at p;walk v s").rows("posts = 20",
                "judge = 2", "waits 0 99 = 99", "posts = 10");
        // Four noses for six places.
        Script.of(start + ";nose c skill 1;nose d skill 1;nose e skill 1;nose f skill 1;place g in a nose c;place h in a nose c"
                + ";place i in a nose c;place j in a nose c;place k in a nose c;place l in a nose c").rows("postOf 0 = 0",
                "postOf 3 = 3", "postOf 4 = -2", "postOf 5 = -2", "postOf 6 ! 1", "posts = 0");
    }

    // GAME: "6 (no WAY, or one place alone)", "-2 there is none"; "at one place but that where he is".
    private static void games() {
        String two = "border wind 1;land a duty 1;land b duty 1;smell r plain from a;place p in b;place q in b"
                + ";traveller t simple home a at p;on t r ";
        Script.of("border wind 1;land a duty 1;place p in a;traveller t simple home a at p").rows("rests 0 0 ! 6", "rest 0 0 ! 6",
                "rests 0 1 ! 1", "rests 1 0 ! 1");
        Script.of(two + "9").rows("rests 0 1 ! 6", "rest 0 1 ! 6", "rests 0 0 = 1", "rest 0 0 = 0", "rests 0 2 ! 1",
                "rest -1 0 ! 1", "rest 0 -1 ! 1");
        Script.of(two + "9;path p q hours 1").rows("rests 0 1 = 1", "rest 0 1 = 8", "rests 0 0 = 1", "rest 0 0 = 0",
                "waits 0 7 = 7", "rest 0 1 = 1", "waits 0 1 = 8", "rests 0 1 = 1", "rest 0 1 = 0");
        // By q or r, whichever he takes the nose would stand at, and the other way round: none. Both are in the other land.
        String four = "border wind 1;land a duty 1;land b duty 1;smell s plain from a;place p in a;place q in b;place r in b"
                + ";place d in a;path p q hours 1;path p r hours 2;path q d hours 1;path r d hours 1"
                + ";traveller t simple home a at p;on t s 3";
        Script.of(four).rows("rests 0 3 = 0", "rest 0 3 = -2", "waits 0 1 = 1", "rests 0 3 = 3", "rest 0 3 = 0");
        // At d, where all ways end: by q 2 and 1, by r 1 and 0.
        Script.of(four.replace("place d in a", "place d in b")).rows("rests 0 3 = 0", "rest 0 3 = -2", "rests 0 1 = 0",
                "rest 0 1 = -2", "rests 0 2 = 0", "rest 0 2 = -2");
        // At d alone: by q 2, by r 1.
        String alone = four.replace("place q in b", "place q in a").replace("place r in b", "place r in a")
                .replace("place d in a", "place d in b");
        Script.of(alone).rows("spray 0 0 4 = 1", "rests 0 3 = 1", "rest 0 3 = 1", "spray 0 0 3 = 1", "rests 0 3 = 3", "rest 0 3 = 0");
        // A nose has skill 1 there, whatever noses are told: of 1 it smells, of nothing not.
        Script.of(two.replace("place q in b", "nose n skill 60;place q in b nose n") + "2;path p q hours 1").rows("rest 0 1 = 1",
                "waits 0 1 = 1", "rest 0 1 = 0", "rests 0 1 = 1");
        // He is at the last place: the nose may stand at the others alone.
        Script.of(two.replace("t simple home a at p", "t soldier home a at q") + "9;path p q hours 1").rows("rests 0 0 = 1",
                "rest 0 0 = 16", "rests 0 1 = 1", "rest 0 1 = 0");
    }

    // The nose would rather stand at the first place, which he comes by first: 19 there, 18 at the next.
    private static void gameByTheFirstPlace() {
        Script.of("border wind 1;land a duty 1;land b duty 1;smell s plain from a;place p in b;place q in b;place r in a"
                + ";path p r hours 1;path p q hours 1;traveller t simple home a at r;on t s 20").rows("rests 0 1 = 1", "rest 0 1 = 19",
                "rests 0 0 = 1", "rest 0 0 = 19", "rests 0 2 = 2", "rest 0 2 = 0");
    }

    // WINDS: "a DRAW mod wind", "(75 times SEED and 74) mod 65,537"; "hours (0 .. 99)", "a SEED (0 .. 65,536)".
    private static void draws() {
        String world = ";land a duty 1;land b duty 1;smell r plain from a;smell h heavy from a;smell x burnt from a"
                + ";nose n skill 8;place p in b nose n;traveller t simple home a at p;on t r 10;on t h 10";
        // SEED 0: 74, 5,624; 872: 65,474; 873: 12, behind the wrap; 65,536 stays 65,536; 65,536 is 1 mod 5, 0 mod 4.
        Script.of("border wind 5" + world).rows("winds 0 0 0 = 20", "winds 0 65536 0 = 20", "winds 0 0 1 = 14", "winds 0 0 2 = 9",
                "winds 0 872 1 = 14", "winds 0 873 1 = 16", "winds 0 65536 1 = 17", "winds 0 65536 2 = 15", "winds 0 0 99 = 0",
                "winds 0 65537 0 ! 2", "winds 0 -1 0 ! 2", "winds 0 0 100 ! 2", "winds 0 0 -1 ! 2", "winds 1 0 100 ! 1",
                "windDuty 0 0 0 0 = 20", "windDuty 0 0 0 1 = 0", "windDuty 0 0 873 1 = 16", "windDuty 0 0 65536 1 = 17",
                "windDuty 0 0 65536 2 = 8", "windDuty 0 0 65536 99 = 0", "windDuty 0 0 65537 0 ! 2", "windDuty 0 0 -1 0 ! 2",
                "windDuty 0 0 0 100 ! 2", "windDuty 0 0 0 -1 ! 2", "windDuty 0 1 0 100 ! 1", "windDuty 1 0 -1 0 ! 1");
        // A wind of 1 takes nothing, whatever is drawn.
        Script.of("border wind 1" + world).rows("winds 0 0 1 = 18", "winds 0 872 1 = 18", "winds 0 65536 1 = 18", "winds 0 1 2 = 17",
                "winds 0 5 10 = 5", "winds 0 5 19 = 0", "winds 0 0 99 = 0", "windDuty 0 0 0 1 = 18", "windDuty 0 0 0 3 = 8");
        Script.of("border wind 4" + world).rows("winds 0 65536 1 = 18", "winds 0 0 1 = 16", "winds 0 0 2 = 15");
        // At least 0 of each, so that one that is gone takes nothing from another: 2 halves of a burnt one.
        Script.of("border wind 5" + world + ";on t x 1").rows("winds 0 0 0 = 21", "winds 0 0 1 = 14", "winds 0 65536 1 = 17");
        // What has gone by counts; winds themselves change nothing.
        Script.of("border wind 5" + world).rows("waits 0 1 = 1", "winds 0 65536 0 = 18", "winds 0 65536 1 = 15", "strength 0 0 0 = 9");
    }

    // waits: "WAIT (1 .. 99)".
    private static void waits() {
        Script.of(KINDS).rows("waits 0 0 ! 2", "waits 0 100 ! 2", "waits 0 -1 ! 2", "waits 0 min ! 2", "waits 2 0 ! 1",
                "waits 0 1 = 1", "waits 0 99 = 100", "waits 1 1 = 1", "traveller 0 4 = 100", "traveller 1 4 = 1",
                "traveller 0 2 = 0", "traveller 0 3 = 0", "size 11 = 3", "waits 0 100 ! 2", "traveller 0 4 = 100");
    }

    // go: "GO: DUTY that is asked. NONE: 1; 5 (no path)".
    private static void goes() {
        Script.of(WALKERS).rows("go 0 0 ! 5", "go 0 2 ! 5", "go 0 3 ! 1", "go 4 1 ! 1", "go 0 1 = 18", "traveller 0 2 = 1",
                "traveller 0 3 = 18", "traveller 0 4 = 2", "strength 0 0 0 = 18", "go 0 1 ! 5", "go 0 2 = 0", "traveller 0 3 = 18",
                "traveller 0 4 = 5", "go 0 0 ! 5", "go 0 2 ! 5", "size 11 = 2", "go 3 1 = 0", "size 11 = 3");
    }

    // spray: "SPRAY (0 .. 99)", "5 (it is so, in HALVES)".
    private static void sprays() {
        Script.of(KINDS).rows("spray 0 5 0 ! 5", "spray 0 0 99 ! 5", "spray 0 5 -1 ! 2", "spray 0 5 100 ! 2", "spray 0 6 100 ! 1",
                "spray 2 0 0 ! 1", "spray 0 5 99 = 1", "strength 0 5 0 = 99", "spray 0 5 99 ! 5", "spray 0 5 0 = 1",
                "strength 0 5 0 = 0", "spray 0 5 0 ! 5", "spray 0 0 100 ! 2", "spray 1 0 1 ! 5", "spray 1 0 2 = 1",
                "traveller 1 4 = 0", "size 11 = 3");
        // A half more than is told by that STRENGTH: it isn't so.
        Script.of(KINDS).rows("waits 0 1 = 1", "strength 0 1 0 = 98", "spray 0 1 98 = 1", "spray 0 1 98 ! 5", "waits 1 1 = 1",
                "strength 1 1 0 = 0", "spray 1 1 0 = 1", "spray 1 1 0 ! 5", "spray 1 0 0 ! 5", "size 11 = 4");
    }

    // wash: "all HALVES become half, downwards"; "5 (he has nothing on)".
    private static void washes() {
        // 198 halves: 99, 49, 24, 12, 6, 3, 1, 0; the burnt one and the cover alike.
        Script.of(KINDS).rows("wash 0 = 1", "strength 0 0 0 = 49", "strength 0 1 0 = 49", "strength 0 1 1 = 49",
                "strength 0 2 0 = 49", "strength 0 3 0 = 49", "strength 0 5 0 = 0", "wash 0 = 1", "strength 0 0 0 = 24", "wash 0 = 1",
                "strength 0 4 0 = 12", "wash 0 = 1", "strength 0 0 0 = 6", "wash 0 = 1", "strength 0 0 0 = 3", "wash 0 = 1",
                "strength 0 0 0 = 1", "wash 0 = 1", "strength 0 0 0 = 0", "wash 0 = 1", "wash 0 ! 5", "size 11 = 8", "wash 2 ! 1",
                "wash -1 ! 1", "traveller 0 4 = 0", "undo = 1", "wash 0 = 1", "wash 0 ! 5");
        // Who has the last smell alone, and a single half of it.
        Script.of(KINDS).rows("waits 1 2 = 2", "wash 1 ! 5", "spray 1 5 1 = 1", "wash 1 = 1", "wash 1 = 1", "wash 1 ! 5");
        Script.of(KINDS).rows("waits 1 1 = 1", "strength 1 1 0 = 0", "strength 1 4 0 = 0", "wash 1 = 1", "wash 1 ! 5");
    }

    // "UNDO: the latest (16 are kept)"; undo: "false: 6".
    private static void sixteenActs() {
        Script.of(KINDS).rows("undo ! 6", "size 11 = 0");
        for (int acts = 15; acts <= 18; acts++) {
            Script script = Script.of(KINDS);
            for (int i = 1; i <= acts; i++) {
                script.rows("waits " + i % 2 + " 1 = " + (i + 1) / 2);
            }
            int kept = Math.min(acts, 16);
            script.rows("size 11 = " + kept);
            for (int i = 1; i <= kept; i++) {
                int left = acts - i;
                script.rows("undo = 1", "size 11 = " + (kept - i), "traveller 1 4 = " + (left + 1) / 2, "traveller 0 4 = " + left / 2);
            }
            script.rows("undo ! 6", "size 11 = 0", "undo ! 6", "strength 0 1 0 = " + (acts > 17 ? 98 : 99));
        }
        // Each ACT is one; what is refused is none, nor is a MARK, nor an UNDO.
        Script.of(WALKERS).rows("waits 0 1 = 1", "go 0 1 = 17", "spray 0 0 9 = 1", "wash 0 = 1", "size 11 = 4", "mark = 0", "size 11 = 4",
                "go 0 1 ! 5", "waits 0 0 ! 2", "spray 0 0 100 ! 2", "size 11 = 4", "undo = 1", "strength 0 0 0 = 9", "undo = 1",
                "strength 0 0 0 = 17", "undo = 1", "traveller 0 2 = 0", "traveller 0 3 = 0", "traveller 0 4 = 1",
                "strength 0 0 0 = 19", "undo = 1", "strength 0 0 0 = 20", "traveller 0 4 = 0", "undo ! 6", "size 12 = 1");
        // Behind an UNDO others are kept in its place, round and round.
        Script script = Script.of(KINDS);
        for (int i = 1; i <= 16; i++) {
            script.rows("waits 0 1 = " + i);
        }
        script.rows("undo = 1", "undo = 1", "size 11 = 14", "waits 1 9 = 9", "waits 1 9 = 18", "waits 1 9 = 27", "size 11 = 16",
                "undo = 1", "undo = 1", "undo = 1", "traveller 1 4 = 0", "traveller 0 4 = 14", "size 11 = 13", "undo = 1",
                "traveller 0 4 = 13");
    }

    // "MARKS: up to 3; gone back to one, nothing can be undone"; back: "(all MARKS stay)"; mark: "1 (no BORDER); 3".
    private static void threeMarks() {
        Script.of(KINDS).rows("back 0 ! 1", "back -1 ! 1", "mark = 0", "back 1 ! 1", "waits 0 1 = 1", "mark = 1", "back 2 ! 1",
                "waits 1 5 = 5", "spray 0 0 7 = 1", "mark = 2", "mark ! 3", "size 12 = 3", "back 3 ! 1", "back -1 ! 1", "back max ! 1",
                "back min ! 1", "size 11 = 3", "back 0 = 1", "size 11 = 0", "undo ! 6", "size 12 = 3", "mark ! 3",
                "traveller 0 4 = 0", "traveller 1 4 = 0", "strength 0 0 0 = 99", "back 2 = 1", "traveller 0 4 = 1",
                "traveller 1 4 = 5", "strength 0 0 0 = 7", "undo ! 6", "waits 0 9 = 10", "size 11 = 1", "back 2 = 1", "size 11 = 0",
                "traveller 0 4 = 1", "back 1 = 1", "traveller 0 4 = 1", "traveller 1 4 = 0", "strength 0 0 0 = 98", "mark ! 3");
        // A MARK stays as it was set, whatever is done and undone.
        Script.of(WALKERS).rows("go 0 1 = 18", "mark = 0", "undo = 1", "traveller 0 2 = 0", "back 0 = 1", "traveller 0 2 = 1",
                "traveller 0 3 = 18", "traveller 0 4 = 2", "undo ! 6", "wash 0 = 1", "undo = 1", "undo ! 6", "mark = 1", "mark = 2",
                "mark ! 3");
    }

    // led: "NoSuchElementException if there is none such".
    private static void ledOnes() {
        Script.of(WALKERS).rows("led 0 = 0", "led 1 = 1", "led 2 = 2", "led 3 ! throws", "led -1 ! throws", "led min ! throws",
                "led max ! throws", "waits 1 20 = 20", "led 1 = 2", "led 2 ! throws", "waits 0 20 = 20", "waits 2 19 = 19", "led 0 = 2",
                "led 1 ! throws", "waits 2 1 = 20", "led 0 ! throws");
        Script.of(WALKERS.replace("w simple home a at s", "w bride home a at q") + ";on w r 1").rows("led 3 ! throws", "spray 3 0 2 = 1",
                "led 3 = 3", "led 4 ! throws");
    }

    // size: "NONE for others; 0 for what there isn't".
    private static void sizes() {
        Script script = Script.of(WALKERS + ";asked t 1;whiff r 1").feeds("x");
        int[] due = {1, 2, 1, 1, 3, 2, 2, 4, 3, 1, 1, 0, 0, 20};
        for (int what = 0; what < due.length; what++) {
            script.rows("size " + what + " = " + due[what]);
        }
        script.rows("size -1 = -1", "size 14 = -1", "size min = -1", "size max = -1", "mark = 0", "size 12 = 1", "waits 0 1 = 1",
                "size 11 = 1", "back 0 = 1", "size 11 = 0", "size 12 = 1", "feed 1 2 3 4 5 = 40", "size 13 = 40");
    }

    // "TROUBLE of the latest call that may be refused (those of which a number is told here)".
    private static void troubles() {
        Script script = Script.of(WALKERS + ";whiff r 1");
        String[] refused = {"smell 1 0 ! 1", "waits 0 0 ! 2", "go 0 0 ! 5", "walked 3 ! 6", "undo ! 6"};
        for (String row : refused) {
            script.rows(row, "fault = 0", "where = -1", "size 4 = 3", "size 99 = -1", "led 0 = 0", "led 9 ! throws", "trouble = "
                    + row.charAt(row.length() - 1), "trouble = " + row.charAt(row.length() - 1), "judge = 1", "trouble = 0",
                    "led 9 ! throws", "size -1 = -1", "trouble = 0");
        }
        Script.of(WALKERS).rows("mark = 0", "mark = 1", "mark = 2", "mark ! 3", "trouble = 3", "led 9 ! throws", "trouble = 3",
                "back 0 = 1", "trouble = 0").faulty(1, "^").rows("trouble = 4", "size 0 = 1", "trouble = 4", "feed 1 2 3 4 5 = 20",
                "trouble = 4", "border 21 ! 2", "trouble = 2", "feed 1 2 3 4 5 = 40", "trouble = 2");
    }

    // "An object is used for at most 512 calls after it has been made".
    private static void to512Calls() {
        Calls waiting = new Calls();
        waiting.tell(KINDS);
        int hours = 0;
        while (waiting.made() < Calls.MOST - 2) {
            hours += 99;
            Check.due("waits(0, 99)", waiting.call("waits", 0, 99), hours);
        }
        Check.due("traveller(0, 4)", waiting.call("traveller", 0, 4), hours);
        Check.due("the 512th call", waiting.call("size", 11), 16);
        Calls going = new Calls();
        going.tell("border wind 5;land a duty 9;land b duty 9;smell r plain from a;smell k heavy from a;nose n skill 1;place p in b nose n"
                + ";place q in b nose n;path p q hours 1;traveller t soldier home a at p");
        int paid = 0;
        for (int i = 0; going.made() < Calls.MOST - 4; i++) {
            going.call("spray", 0, 0, 99);
            going.call("spray", 0, 1, 99);
            Check.due("go()", going.call("go", 0, 1 - i % 2), 98 * 9 * 4);
            paid += 98 * 9 * 4;
        }
        Check.due("traveller(0, 3)", going.call("traveller", 0, 3), paid);
        Calls telling = new Calls();
        while (telling.made() < Calls.MOST - 5) {
            Check.due("border()", telling.tell("border wind 3;land a duty 1;place p in a"), 1);
            Check.due("border()", telling.tell("border wind 3;land a duty 1"), -1);
        }
    }
}
