/** Each promise with answers reckoned by hand, its edges and its refusals. FaultsTest has more of promises 3 to 5. */
public final class PromisesTest {
    // Smells: 0 r, 1 h, 2 k, 3 x, 4 i, 5 o. Noses: 0 n, 1 m. Places: 0 p, 1 q, 2 s, 3 z, 4 y. Travellers: 0 t to 3 w.
    static final String WORLD = "border wind 4;land a duty 2;land b duty 3;land c duty 0"
            + ";smell r plain from a;smell h heavy from b;smell k cover from b;smell x burnt from b;smell i incense from a"
            + ";smell o cover from c;nose n skill 5;nose m skill 20"
            + ";place p in c;place q in c nose n;place s in b nose m;place z in a nose n;place y in c"
            + ";path p q hours 2;path q s hours 3;path p s hours 9;path z s hours 1;leaves p r 20;leaves q h 10"
            + ";traveller t simple home a at p;traveller u soldier home b at p;traveller v bride home a at q"
            + ";traveller w child home c at y"
            + ";on t r 30;on t h 12;on t x 40;on u r 20;on u k 21;on u i 40;on v h 11;on w r 50"
            + ";walk t q,s,z;walk u q,p;walk w p;asked t 99;whiff r 18;whiff h 10";

    public static void main(String[] args) {
        newObject();
        feeding();
        things();
        strengths();
        coveredAndSmelt();
        duties();
        claims();
        goneAndWaiting();
        walks();
        asked();
        ways();
        likeWays();
        covers();
        whereBeen();
        greaterStays();
        posts();
        postsOfFewAndMany();
        games();
        winds();
        waitingAndGoing();
        sprayingAndWashing();
        undoing();
        marks();
        led();
        sizes();
        wayWithoutFirstPlace();
        aloneOnNewObjects();
        edges();
        gameFromAnotherPlace();
        toldAnew();
        Check.end("PromisesTest");
    }

    // Promise 1: without a BORDER each call that may be refused is refused.
    private static void newObject() {
        SmellCustoms x = new SmellCustoms();
        Check.due("trouble()", x.trouble(), 0);
        Check.due("fault()", x.fault(), 0);
        Check.due("where()", x.where(), -1);
        Check.refused(x, "smell", x.smell(0, 0), 1);
        Check.refused(x, "place", x.place(0, 0), 1);
        Check.refused(x, "traveller", x.traveller(0, 0), 1);
        Check.refused(x, "path", x.path(0, 1), 1);
        Check.refused(x, "strength", x.strength(0, 0, 100), 1);
        Check.refused(x, "covered", x.covered(0, 0, 0), 1);
        Check.refused(x, "smelt", x.smelt(0, 0, 0), 1);
        Check.refused(x, "duty", x.duty(0, 0, 0), 1);
        Check.refused(x, "claim", x.claim(0, 0), 1);
        Check.refused(x, "gone", x.gone(0, 0), 1);
        Check.refused(x, "mustWait", x.mustWait(0, 0), 1);
        Check.refused(x, "walked", x.walked(0), 1);
        Check.refused(x, "walkedAt", x.walkedAt(0, 0), 1);
        Check.refused(x, "judge", x.judge(), 1);
        Check.refused(x, "wrongly", x.wrongly(), 1);
        Check.refused(x, "quickest", x.quickest(0, 0), 1);
        Check.refused(x, "cheapest", x.cheapest(0, 0), 1);
        Check.refused(x, "secret", x.secret(0, 0), 1);
        Check.refused(x, "wayAt", x.wayAt(0, 0, 0, 0), 1);
        Check.refused(x, "rounds", x.rounds(), 1);
        Check.refused(x, "cover", x.cover(0, 0, 0), 1);
        Check.refused(x, "been", x.been(), 1);
        Check.refused(x, "could", x.could(), 1);
        Check.refused(x, "surely", x.surely(), 1);
        Check.refused(x, "beenAt", x.beenAt(0), 1);
        Check.refused(x, "posts", x.posts(), 1);
        Check.refused(x, "postOf", x.postOf(0), 1);
        Check.refused(x, "rests", x.rests(0, 0), 1);
        Check.refused(x, "rest", x.rest(0, 0), 1);
        Check.refused(x, "winds", x.winds(0, 0, 0), 1);
        Check.refused(x, "windDuty", x.windDuty(0, 0, 0, 0), 1);
        Check.refused(x, "waits", x.waits(0, 1), 1);
        Check.refused(x, "go", x.go(0, 0), 1);
        Check.refused(x, "spray", x.spray(0, 0, 0), 1);
        Check.refused(x, "wash", x.wash(0), 1);
        Check.refused(x, "undo", x.undo(), 6);
        Check.refused(x, "mark", x.mark(), 1);
        Check.refused(x, "back", x.back(0), 1);
        Check.due("led(0)", Check.led(x, 0), -9);
        for (int what = 0; what <= 13; what++) {
            Check.due("size(" + what + ")", x.size(what), 0);
        }
    }

    // Promise 2; it is no call that may be refused, so trouble() stays as it was.
    private static void feeding() {
        SmellCustoms x = new SmellCustoms();
        Check.refused(x, "border(1)", x.border(1), 2);
        for (int i = 1; i <= 55; i++) {
            Check.due("feed", x.feed(-1, 0, 0, 0, 0), 20 * i);
        }
        Check.due("feed", x.feed(0, 0, 0, 0, 0), -1);
        Check.due("trouble() behind feed", x.trouble(), 2);
        Check.due("size(13)", x.size(13), 1100);
        Check.refused(x, "border(1101)", x.border(1101), 2);
        Check.due("border(1100)", x.border(1100), -1);
        Check.due("trouble()", x.trouble(), 4);
        Check.due("where()", x.where(), 0);
        Check.due("feed", x.feed(0, 0, 0, 0, 0), 20);
        Check.due("where() behind feed", x.where(), 0);
        // 'b' 'o' 'r' 'd' is the first number, the highest byte first.
        SmellCustoms y = new SmellCustoms();
        y.feed(0x626f7264, 0x65722077, 0x696e6420, 0x33202020, 0x20202020);
        Check.due("border(13)", y.border(13), -1);
        Check.due("fault()", y.fault(), 6);
        Check.due("where()", y.where(), 13);
    }

    // Promises 6 to 9.
    private static void things() {
        SmellCustoms x = Check.told(WORLD);
        int[][] smells = {{0, 0, 2}, {1, 1, 3}, {2, 1, 3}, {3, 1, 3}, {4, 0, 2}, {2, 2, 0}};
        int[][] places = {{2, -2, 2}, {2, 0, 2}, {1, 1, 3}, {0, 0, 1}, {2, -2, 0}};
        int[][] travellers = {{0, 0, 0, 0, 0}, {1, 1, 0, 0, 0}, {2, 0, 1, 0, 0}, {3, 2, 4, 0, 0}};
        for (int what = 0; what < 3; what++) {
            for (int s = 0; s < 6; s++) {
                Check.fine(x, "smell(" + s + ", " + what + ")", x.smell(s, what), smells[s][what]);
            }
            for (int p = 0; p < 5; p++) {
                Check.fine(x, "place(" + p + ", " + what + ")", x.place(p, what), places[p][what]);
            }
        }
        for (int what = 0; what < 5; what++) {
            for (int t = 0; t < 4; t++) {
                Check.fine(x, "traveller(" + t + ", " + what + ")", x.traveller(t, what), travellers[t][what]);
            }
        }
        Check.refused(x, "smell(6, 0)", x.smell(6, 0), 1);
        Check.refused(x, "smell(-1, 0)", x.smell(-1, 0), 1);
        Check.refused(x, "smell(0, 3)", x.smell(0, 3), 1);
        Check.refused(x, "smell(0, -1)", x.smell(0, -1), 1);
        Check.refused(x, "place(5, 0)", x.place(5, 0), 1);
        Check.refused(x, "place(0, 3)", x.place(0, 3), 1);
        Check.refused(x, "traveller(4, 0)", x.traveller(4, 0), 1);
        Check.refused(x, "traveller(0, 5)", x.traveller(0, 5), 1);
        Check.fine(x, "path(0, 1)", x.path(0, 1), 2);
        Check.fine(x, "path(1, 0)", x.path(1, 0), 2);
        Check.fine(x, "path(2, 3)", x.path(2, 3), 1);
        Check.fine(x, "path(0, 4)", x.path(0, 4), -2);
        Check.refused(x, "path(0, 0)", x.path(0, 0), 1);
        Check.refused(x, "path(0, 5)", x.path(0, 5), 1);
        Check.refused(x, "path(-1, 0)", x.path(-1, 0), 1);
    }

    // Promise 10.
    private static void strengths() {
        SmellCustoms x = Check.told(WORLD);
        Check.fine(x, "strength(0, 0, 0)", x.strength(0, 0, 0), 30);
        Check.fine(x, "strength(0, 0, 4)", x.strength(0, 0, 4), 26);
        Check.fine(x, "strength(0, 0, 29)", x.strength(0, 0, 29), 1);
        Check.fine(x, "strength(0, 0, 99)", x.strength(0, 0, 99), 0);
        Check.fine(x, "strength(0, 1, 5)", x.strength(0, 1, 5), 9);
        Check.fine(x, "strength(0, 3, 1)", x.strength(0, 3, 1), 38);
        Check.fine(x, "strength(1, 4, 3)", x.strength(1, 4, 3), 38);
        Check.fine(x, "strength(1, 2, 3)", x.strength(1, 2, 3), 18);
        Check.fine(x, "strength(1, 1, 0)", x.strength(1, 1, 0), 0);
        Check.refused(x, "strength(0, 0, 100)", x.strength(0, 0, 100), 2);
        Check.refused(x, "strength(0, 0, -1)", x.strength(0, 0, -1), 2);
        Check.refused(x, "strength(4, 0, 0)", x.strength(4, 0, 0), 1);
        Check.refused(x, "strength(0, 6, 100)", x.strength(0, 6, 100), 1);
    }

    // Promises 11, 12.
    private static void coveredAndSmelt() {
        SmellCustoms x = Check.told(WORLD);
        Check.fine(x, "covered(1, 0, 0)", x.covered(1, 0, 0), 10);
        Check.fine(x, "covered(1, 4, 0)", x.covered(1, 4, 0), 30);
        Check.fine(x, "covered(1, 2, 0)", x.covered(1, 2, 0), 21);
        Check.fine(x, "covered(1, 0, 1)", x.covered(1, 0, 1), 9);
        Check.fine(x, "covered(1, 0, 2)", x.covered(1, 0, 2), 9);
        Check.fine(x, "covered(1, 3, 0)", x.covered(1, 3, 0), 0);
        Check.fine(x, "covered(0, 0, 0)", x.covered(0, 0, 0), 30);
        Check.refused(x, "covered(0, 0, 100)", x.covered(0, 0, 100), 2);
        Check.refused(x, "covered(0, 6, 0)", x.covered(0, 6, 0), 1);
        Check.fine(x, "smelt(0, 0, 0)", x.smelt(0, 0, 0), 11);
        Check.fine(x, "smelt(0, 1, 0)", x.smelt(0, 1, 0), 9);
        Check.fine(x, "smelt(0, 0, 14)", x.smelt(0, 0, 14), 11);
        Check.fine(x, "smelt(0, 0, 15)", x.smelt(0, 0, 15), 9);
        Check.fine(x, "smelt(1, 1, 0)", x.smelt(1, 1, 0), 4 + 16);
        Check.fine(x, "smelt(1, 0, 0)", x.smelt(1, 0, 0), 1 + 4 + 16);
        Check.refused(x, "smelt(0, 2, 0)", x.smelt(0, 2, 0), 1);
        Check.refused(x, "smelt(4, 0, 0)", x.smelt(4, 0, 0), 1);
        Check.refused(x, "smelt(0, 0, 100)", x.smelt(0, 0, 100), 2);
        // Of two covers the greater one covers; a cover covers no cover.
        Check.fine(x, "spray(1, 5, 30)", x.spray(1, 5, 30));
        Check.fine(x, "covered(1, 0, 0)", x.covered(1, 0, 0), 5);
        Check.fine(x, "covered(1, 2, 0)", x.covered(1, 2, 0), 21);
        Check.fine(x, "covered(1, 5, 0)", x.covered(1, 5, 0), 30);
    }

    // Promise 13.
    private static void duties() {
        SmellCustoms x = Check.told(WORLD);
        Check.fine(x, "duty(0, 1, 0)", x.duty(0, 1, 0), 96);
        Check.fine(x, "duty(0, 2, 0)", x.duty(0, 2, 0), 60);
        Check.fine(x, "duty(0, 3, 0)", x.duty(0, 3, 0), 36);
        Check.fine(x, "duty(0, 0, 0)", x.duty(0, 0, 0), 0);
        Check.fine(x, "duty(1, 1, 0)", x.duty(1, 1, 0), 166);
        Check.fine(x, "duty(1, 3, 0)", x.duty(1, 3, 0), 126);
        Check.fine(x, "duty(1, 2, 0)", x.duty(1, 2, 0), 0);
        Check.fine(x, "duty(2, 1, 0)", x.duty(2, 1, 0), 16);
        Check.fine(x, "duty(3, 1, 0)", x.duty(3, 1, 0), 0);
        Check.fine(x, "duty(0, 1, 2)", x.duty(0, 1, 2), 89);
        Check.fine(x, "duty(0, 1, 99)", x.duty(0, 1, 99), 0);
        Check.refused(x, "duty(0, 5, 0)", x.duty(0, 5, 0), 1);
        Check.refused(x, "duty(4, 0, 0)", x.duty(4, 0, 0), 1);
        Check.refused(x, "duty(0, 0, 100)", x.duty(0, 0, 100), 2);
        Check.refused(x, "duty(0, 0, -1)", x.duty(0, 0, -1), 2);
    }

    // Promise 14.
    private static void claims() {
        SmellCustoms x = Check.told(WORLD);
        Check.fine(x, "claim(0, 0)", x.claim(0, 0), 0);
        Check.fine(x, "claim(0, 23)", x.claim(0, 23), 0);
        Check.fine(x, "claim(0, 30)", x.claim(0, 30), -2);
        Check.fine(x, "claim(1, 0)", x.claim(1, 0), 0);
        Check.fine(x, "claim(2, 0)", x.claim(2, 0), 1);
        // 40 of a by r and i against 40 of b by k, and then one more.
        x.spray(1, 2, 30);
        x.spray(1, 0, 20);
        x.spray(1, 4, 40);
        Check.fine(x, "claim(1, 0)", x.claim(1, 0), -2);
        x.spray(1, 2, 31);
        Check.fine(x, "claim(1, 0)", x.claim(1, 0), 1);
        x.spray(1, 5, 31);
        Check.fine(x, "claim(1, 0) of two that have as much", x.claim(1, 0), -2);
        Check.refused(x, "claim(4, 0)", x.claim(4, 0), 1);
        Check.refused(x, "claim(0, 100)", x.claim(0, 100), 2);
        Check.refused(x, "claim(-1, 100)", x.claim(-1, 100), 1);
    }

    // Promises 15, 16.
    private static void goneAndWaiting() {
        SmellCustoms x = Check.told(WORLD);
        Check.fine(x, "gone(0, 0)", x.gone(0, 0), 30);
        Check.fine(x, "gone(0, 1)", x.gone(0, 1), 23);
        Check.fine(x, "gone(0, 3)", x.gone(0, 3), 20);
        Check.fine(x, "gone(1, 4)", x.gone(1, 4), 79);
        Check.fine(x, "gone(1, 2)", x.gone(1, 2), 21);
        Check.fine(x, "gone(1, 1)", x.gone(1, 1), 0);
        Check.fine(x, "spray(1, 1, 99)", x.spray(1, 1, 99));
        Check.fine(x, "gone(1, 1)", x.gone(1, 1), 197);
        Check.refused(x, "gone(0, 6)", x.gone(0, 6), 1);
        Check.refused(x, "gone(4, 0)", x.gone(4, 0), 1);
        Check.fine(x, "mustWait(0, 1)", x.mustWait(0, 1), 26);
        Check.fine(x, "mustWait(0, 2)", x.mustWait(0, 2), 11);
        Check.fine(x, "mustWait(0, 0)", x.mustWait(0, 0), 0);
        Check.fine(x, "mustWait(3, 1)", x.mustWait(3, 1), 0);
        Check.refused(x, "mustWait(0, 5)", x.mustWait(0, 5), 1);
        Check.refused(x, "mustWait(4, 0)", x.mustWait(4, 0), 1);
        // More than 99 hours: 99 of a heavy one, and a nose of skill 1.
        SmellCustoms y = Check.told("border wind 1;land a duty 1;land b duty 1;smell h heavy from a;nose n skill 1"
                + ";place p in b nose n;traveller t simple home a at p;traveller u bride home a at p;on t h 99;on u h 99");
        Check.fine(y, "mustWait(0, 0)", y.mustWait(0, 0), 197);
        Check.fine(y, "mustWait(1, 0), half of 1 is nothing", y.mustWait(1, 0), 195);
        // Nothing is to be paid for an hour, and then again something.
        SmellCustoms z = Check.told("border wind 1;land a duty 1;land b duty 0;smell h heavy from a;smell k cover from b"
                + ";nose n skill 5;place p in b nose n;traveller t simple home a at p;on t h 9;on t k 10");
        Check.fine(z, "mustWait(0, 0)", z.mustWait(0, 0), 0);
        Check.fine(z, "duty(0, 0, 4)", z.duty(0, 0, 4), 0);
        Check.fine(z, "duty(0, 0, 8)", z.duty(0, 0, 8), 0);
        // Halves 20 and 22: covered is 10 - 5, 9 - 5, 9 - 4.
        z.spray(0, 0, 10);
        z.spray(0, 1, 11);
        Check.fine(z, "duty(0, 0, 0)", z.duty(0, 0, 0), 5);
        Check.fine(z, "mustWait(0, 0)", z.mustWait(0, 0), 1);
        Check.fine(z, "duty(0, 0, 1)", z.duty(0, 0, 1), 0);
        Check.fine(z, "duty(0, 0, 2)", z.duty(0, 0, 2), 5);
    }

    // Promises 17 to 19.
    private static void walks() {
        SmellCustoms x = Check.told(WORLD);
        Check.fine(x, "walked(0)", x.walked(0), 166);
        Check.fine(x, "walkedAt(0, 0)", x.walkedAt(0, 0), 89);
        Check.fine(x, "walkedAt(0, 1)", x.walkedAt(0, 1), 50);
        Check.fine(x, "walkedAt(0, 2)", x.walkedAt(0, 2), 27);
        Check.refused(x, "walkedAt(0, 3)", x.walkedAt(0, 3), 1);
        Check.refused(x, "walkedAt(0, -1)", x.walkedAt(0, -1), 1);
        Check.fine(x, "walked(1)", x.walked(1), 150);
        Check.fine(x, "walkedAt(1, 1)", x.walkedAt(1, 1), 0);
        Check.refused(x, "walked(2)", x.walked(2), 6);
        Check.refused(x, "walkedAt(2, 9)", x.walkedAt(2, 9), 6);
        Check.fine(x, "walked(3)", x.walked(3), -2);
        Check.refused(x, "walkedAt(3, 0)", x.walkedAt(3, 0), 5);
        Check.refused(x, "walkedAt(3, 1)", x.walkedAt(3, 1), 1);
        Check.refused(x, "walked(4)", x.walked(4), 1);
        Check.refused(x, "walkedAt(-1, 0)", x.walkedAt(-1, 0), 1);
        Check.fine(x, "judge()", x.judge(), 3);
        // From where he is NOW: at q the first path of the walk of t is from q to q.
        Check.fine(x, "go(0, 1)", x.go(0, 1), 89);
        Check.fine(x, "walked(0)", x.walked(0), -2);
        Check.fine(x, "judge()", x.judge(), 0);
        Check.fine(x, "go(0, 0)", x.go(0, 0), 0);
        Check.fine(x, "walked(0)", x.walked(0), 75 + 42 + 21);
        Check.fine(x, "judge()", x.judge(), 3);
        SmellCustoms y = Check.told("border wind 1;land a duty 1;place p in a;traveller t child home a at p");
        Check.fine(y, "judge()", y.judge(), -2);
        Check.fine(y, "wrongly()", y.wrongly(), -2);
    }

    // Promise 20.
    private static void asked() {
        SmellCustoms x = Check.told(WORLD);
        Check.fine(x, "wrongly()", x.wrongly(), 0);
        String start = "border wind 1;land a duty 1;land b duty 1;smell s plain from a;nose n skill 1;place p in a"
                + ";place q in b nose n;path p q hours 3;traveller t simple home a at p;traveller u simple home a at q"
                + ";traveller v simple home a at q;on t s 20;walk t q;walk u q;asked t 17;asked t 17";
        Check.fine(x, "border()", Check.tell(x, start), 2);
        Check.fine(x, "wrongly()", x.wrongly(), -2);
        Check.fine(x, "border()", Check.tell(x, start + ";asked t 16"), 2);
        Check.fine(x, "wrongly()", x.wrongly(), 2);
        Check.fine(x, "border()", Check.tell(x, start + ";asked u 0"), 2);
        Check.fine(x, "wrongly() if it can't be", x.wrongly(), 2);
        Check.fine(x, "border()", Check.tell(x, start + ";asked t 17;asked v 0"), 2);
        Check.fine(x, "wrongly() if none is told", x.wrongly(), 3);
        Check.fine(x, "border()", Check.tell(x, start), 2);
        Check.fine(x, "waits(0, 1)", x.waits(0, 1), 1);
        Check.fine(x, "wrongly() an hour behind", x.wrongly(), 0);
    }

    private static void way(SmellCustoms x, int kind, int t, int to, int... stops) {
        for (int i = 0; i < stops.length; i++) {
            Check.fine(x, "wayAt(" + kind + ", " + t + ", " + to + ", " + i + ")", x.wayAt(kind, t, to, i), stops[i]);
        }
        Check.refused(x, "wayAt(" + kind + ", " + t + ", " + to + ") behind it", x.wayAt(kind, t, to, stops.length), 1);
        Check.refused(x, "wayAt(" + kind + ", " + t + ", " + to + ", -1)", x.wayAt(kind, t, to, -1), 1);
    }

    // Promises 21 to 25.
    private static void ways() {
        SmellCustoms x = Check.told(WORLD);
        Check.fine(x, "quickest(0, 2)", x.quickest(0, 2), 5);
        way(x, 0, 0, 2, 0, 1, 2);
        Check.fine(x, "cheapest(0, 2)", x.cheapest(0, 2), 42);
        way(x, 1, 0, 2, 0, 2);
        Check.fine(x, "secret(0, 2)", x.secret(0, 2), -2);
        way(x, 2, 0, 2);
        Check.fine(x, "cheapest(0, 3)", x.cheapest(0, 3), 63);
        way(x, 1, 0, 3, 0, 2, 3);
        Check.fine(x, "quickest(0, 3)", x.quickest(0, 3), 6);
        Check.fine(x, "cheapest(0, 1)", x.cheapest(0, 1), 89);
        Check.fine(x, "cheapest(1, 1)", x.cheapest(1, 1), 54);
        Check.fine(x, "secret(1, 2)", x.secret(1, 2), 9);
        way(x, 2, 1, 2, 0, 2);
        Check.fine(x, "quickest(0, 4)", x.quickest(0, 4), -2);
        Check.fine(x, "cheapest(0, 4)", x.cheapest(0, 4), -2);
        Check.fine(x, "secret(0, 4)", x.secret(0, 4), -2);
        way(x, 0, 0, 4);
        Check.fine(x, "quickest(2, 1)", x.quickest(2, 1), 0);
        Check.fine(x, "cheapest(2, 1)", x.cheapest(2, 1), 0);
        Check.fine(x, "secret(2, 1), where he is asked", x.secret(2, 1), 0);
        way(x, 2, 2, 1, 1);
        Check.fine(x, "rounds()", x.rounds(), 6);
        Check.refused(x, "quickest(4, 0)", x.quickest(4, 0), 1);
        Check.refused(x, "quickest(0, 5)", x.quickest(0, 5), 1);
        Check.refused(x, "cheapest(-1, 0)", x.cheapest(-1, 0), 1);
        Check.refused(x, "cheapest(0, -1)", x.cheapest(0, -1), 1);
        Check.refused(x, "secret(4, 0)", x.secret(4, 0), 1);
        Check.refused(x, "secret(0, 5)", x.secret(0, 5), 1);
        Check.refused(x, "wayAt(3, 0, 0, 0)", x.wayAt(3, 0, 0, 0), 1);
        Check.refused(x, "wayAt(-1, 0, 0, 0)", x.wayAt(-1, 0, 0, 0), 1);
        Check.refused(x, "wayAt(0, 4, 0, 0)", x.wayAt(0, 4, 0, 0), 1);
        Check.refused(x, "wayAt(0, 0, 5, 0)", x.wayAt(0, 0, 5, 0), 1);
    }

    // Promise 24: of like WAYS the first by places' numbers, though it has more places.
    private static void likeWays() {
        SmellCustoms x = Check.told("border wind 1;land a duty 1;place p in a;place q in a;place r in a;place s in a"
                + ";path p s hours 6;path p r hours 3;path r s hours 3;path p q hours 2;path q r hours 2"
                + ";traveller t simple home a at p");
        for (int kind = 0; kind < 3; kind++) {
            way(x, kind, 0, 3, 0, 2, 3);
            way(x, kind, 0, 2, 0, 2);
            way(x, kind, 0, 0, 0);
        }
        Check.fine(x, "quickest(0, 3)", x.quickest(0, 3), 6);
        Check.fine(x, "rounds()", x.rounds(), 0);
    }

    // Promise 26.
    private static void covers() {
        SmellCustoms x = Check.told(WORLD);
        Check.fine(x, "cover(0, 5, 1)", x.cover(0, 5, 1), 50);
        Check.fine(x, "cover(0, 5, 2)", x.cover(0, 5, 2), 50);
        Check.fine(x, "cover(0, 2, 1)", x.cover(0, 2, 1), -2);
        Check.fine(x, "cover(0, 5, 0)", x.cover(0, 5, 0), 0);
        Check.fine(x, "cover(0, 5, 4)", x.cover(0, 5, 4), -2);
        Check.fine(x, "cover(1, 5, 1)", x.cover(1, 5, 1), -2);
        Check.fine(x, "cover(2, 2, 2)", x.cover(2, 2, 2), 0);
        Check.fine(x, "spray(0, 5, 49)", x.spray(0, 5, 49));
        Check.fine(x, "cover(0, 5, 1) in place of what he has", x.cover(0, 5, 1), 50);
        Check.fine(x, "go(0, 1)", x.go(0, 1), 10);
        Check.refused(x, "cover(0, 0, 1)", x.cover(0, 0, 1), 1);
        Check.refused(x, "cover(0, 6, 1)", x.cover(0, 6, 1), 1);
        Check.refused(x, "cover(4, 5, 1)", x.cover(4, 5, 1), 1);
        Check.refused(x, "cover(0, 5, 5)", x.cover(0, 5, 5), 1);
    }

    // Promises 27 to 30. Rows: p q; s p q (p is 20, 2 hours behind 18); z s p q.
    private static void whereBeen() {
        SmellCustoms x = Check.told(WORLD);
        Check.fine(x, "been()", x.been(), 3);
        Check.fine(x, "could()", x.could(), 15);
        Check.fine(x, "surely()", x.surely(), 3);
        Check.fine(x, "beenAt(0)", x.beenAt(0), 0);
        Check.fine(x, "beenAt(1)", x.beenAt(1), 1);
        Check.fine(x, "beenAt(2)", x.beenAt(2), -2);
        Check.fine(x, "beenAt(3)", x.beenAt(3), -2);
        Check.refused(x, "beenAt(4)", x.beenAt(4), 1);
        Check.refused(x, "beenAt(-1)", x.beenAt(-1), 1);
        String start = "border wind 5;land a duty 1;smell s plain from a;smell h heavy from a;place p in a;place q in a"
                + ";path p q hours 3;leaves p s 9;leaves q h 9";
        Check.fine(x, "border()", Check.tell(x, start), 2);
        Check.refused(x, "been()", x.been(), 6);
        Check.refused(x, "could()", x.could(), 6);
        Check.refused(x, "surely()", x.surely(), 6);
        Check.refused(x, "beenAt(7)", x.beenAt(7), 6);
        Check.fine(x, "border()", Check.tell(x, start + ";whiff s 8"), 2);
        Check.fine(x, "been()", x.been(), 0);
        Check.fine(x, "could()", x.could(), 0);
        Check.fine(x, "surely()", x.surely(), 0);
        Check.fine(x, "beenAt(0)", x.beenAt(0), -2);
        // Of a heavy one 18 halves, 3 hours: 15, which are 7.
        Check.fine(x, "border()", Check.tell(x, start + ";whiff s 9;whiff h 7"), 2);
        Check.fine(x, "been()", x.been(), 1);
        Check.fine(x, "beenAt(0)", x.beenAt(0), 1);
        Check.fine(x, "beenAt(1)", x.beenAt(1), 0);
        Check.fine(x, "border()", Check.tell(x, start + ";whiff h 9"), 2);
        Check.fine(x, "been()", x.been(), 2);
        Check.fine(x, "beenAt(0)", x.beenAt(0), 1);
        Check.fine(x, "beenAt(1)", x.beenAt(1), -2);
        Check.fine(x, "could()", x.could(), 3);
        Check.fine(x, "surely()", x.surely(), 2);
        // At most four places: along a row of five from one end to the other is too far.
        String row = "border wind 1;land a duty 1;smell s plain from a;smell u plain from a;place p in a;place q in a"
                + ";place r in a;place v in a;place w in a;path p q hours 1;path q r hours 1;path r v hours 1"
                + ";path v w hours 1;leaves p s 60;leaves w u 60;leaves v u 50";
        Check.fine(x, "border()", Check.tell(x, row + ";whiff s 56;whiff u 60"), 5);
        Check.fine(x, "been()", x.been(), 0);
        Check.fine(x, "border()", Check.tell(x, row + ";whiff s 57;whiff u 50"), 5);
        Check.fine(x, "been()", x.been(), 1);
        Check.fine(x, "beenAt(3)", x.beenAt(3), 3);
        Check.fine(x, "surely()", x.surely(), 15);
    }

    // Promise 27: where he has some already, the greater one stays.
    private static void greaterStays() {
        String start = "border wind 1;land a duty 1;smell s plain from a;place p in a;place q in a;path p q hours 2"
                + ";leaves p s 20;leaves q s 10";
        SmellCustoms x = Check.told(start + ";whiff s 18");
        Check.fine(x, "been() by 18", x.been(), 1);
        Check.fine(x, "beenAt(1)", x.beenAt(1), 1);
        Check.fine(x, "border()", Check.tell(x, start + ";whiff s 20"), 2);
        Check.fine(x, "been() by 20", x.been(), 2);
        Check.fine(x, "border()", Check.tell(x, start + ";whiff s 10"), 2);
        Check.fine(x, "been() by 10", x.been(), 1);
        Check.fine(x, "beenAt(1)", x.beenAt(1), -2);
        Check.fine(x, "border()", Check.tell(x, start + ";whiff s 28"), 2);
        Check.fine(x, "been() by 28", x.been(), 0);
    }

    // Promises 31, 32.
    private static void posts() {
        SmellCustoms x = Check.told(WORLD);
        Check.fine(x, "posts()", x.posts(), 289);
        int[] due = {-2, 0, 1, -2, -2};
        for (int p = 0; p < 5; p++) {
            Check.fine(x, "postOf(" + p + ")", x.postOf(p), due[p]);
        }
        Check.refused(x, "postOf(5)", x.postOf(5), 1);
        Check.refused(x, "postOf(-1)", x.postOf(-1), 1);
        // From NOW: behind a wash of both there is less.
        x.wash(0);
        x.wash(1);
        Check.fine(x, "posts()", x.posts(), 26 + 15 + 2 * 24);
    }

    private static void postsOfFewAndMany() {
        String start = "border wind 1;land a duty 1;land b duty 1;smell s plain from a;nose n skill 60;nose m skill 9"
                + ";nose o skill 10";
        SmellCustoms x = Check.told(start + ";place p in a;place q in b nose n;path p q hours 1"
                + ";traveller t simple home a at p;on t s 11;walk t q");
        Check.fine(x, "walked(0)", x.walked(0), 0);
        Check.fine(x, "posts()", x.posts(), 10);
        Check.fine(x, "postOf(1), of like ones the first", x.postOf(1), 1);
        Check.fine(x, "postOf(0), which has no nose as told", x.postOf(0), -2);
        Check.fine(x, "border()", Check.tell(x, start + ";place p in a nose o;place q in b nose o;place r in b nose o"
                + ";place v in b nose o"), 4);
        Check.fine(x, "posts() without a walk", x.posts(), 0);
        for (int p = 0; p < 3; p++) {
            Check.fine(x, "postOf(" + p + ")", x.postOf(p), p);
        }
        Check.fine(x, "postOf(3), for which none is left", x.postOf(3), -2);
        Check.fine(x, "border()", Check.tell(x, start + ";place p in a"), 1);
        Check.fine(x, "posts()", x.posts(), 0);
        Check.fine(x, "postOf(0)", x.postOf(0), -2);
    }

    // Promises 33, 34.
    private static void games() {
        SmellCustoms x = Check.told(WORLD);
        Check.fine(x, "rests(0, 2)", x.rests(0, 2), 1);
        Check.fine(x, "rest(0, 2)", x.rest(0, 2), 42);
        Check.fine(x, "rests(0, 1)", x.rests(0, 1), 1);
        Check.fine(x, "rest(0, 1)", x.rest(0, 1), 54);
        Check.fine(x, "rest(0, 3)", x.rest(0, 3), 42);
        Check.fine(x, "rests(0, 0)", x.rests(0, 0), 4);
        Check.fine(x, "rest(0, 0)", x.rest(0, 0), 0);
        Check.fine(x, "rests(3, 4) where there is no path", x.rests(3, 4), 4);
        Check.refused(x, "rests(0, 4)", x.rests(0, 4), 6);
        Check.refused(x, "rest(0, 4)", x.rest(0, 4), 6);
        Check.refused(x, "rests(4, 0)", x.rests(4, 0), 1);
        Check.refused(x, "rests(0, 5)", x.rests(0, 5), 1);
        Check.refused(x, "rest(-1, 0)", x.rest(-1, 0), 1);
        Check.refused(x, "rest(0, -1)", x.rest(0, -1), 1);
        // Two ways, and on each one place where something is smelt, by a nose that isn't told there.
        SmellCustoms y = Check.told("border wind 1;land a duty 1;land b duty 1;smell s plain from a;place p in a"
                + ";place q in b;place r in b;place d in a;path p q hours 1;path p r hours 2;path q d hours 1"
                + ";path r d hours 1;traveller t simple home a at p;on t s 3");
        Check.fine(y, "rests(0, 3)", y.rests(0, 3), 0);
        Check.fine(y, "rest(0, 3)", y.rest(0, 3), -2);
        Check.fine(y, "waits(0, 1)", y.waits(0, 1), 1);
        // By r nothing is smelt any more: the nose may stand wherever.
        Check.fine(y, "rests(0, 3)", y.rests(0, 3), 3);
        Check.fine(y, "rest(0, 3)", y.rest(0, 3), 0);
        SmellCustoms z = Check.told("border wind 1;land a duty 1;place p in a;traveller t simple home a at p");
        Check.refused(z, "rests(0, 0)", z.rests(0, 0), 6);
        Check.refused(z, "rest(0, 0)", z.rest(0, 0), 6);
        Check.refused(z, "rest(0, 1)", z.rest(0, 1), 1);
    }

    // Promises 35, 36. SEEDS from 0: 74, 5,624, 28,652; by a wind of 4: 2, 0, 0.
    private static void winds() {
        SmellCustoms x = Check.told(WORLD);
        Check.fine(x, "winds(0, 0, 0)", x.winds(0, 0, 0), 82);
        Check.fine(x, "winds(0, 0, 1)", x.winds(0, 0, 1), 28 + 10 + 37);
        Check.fine(x, "winds(0, 0, 2)", x.winds(0, 0, 2), 27 + 10 + 35);
        Check.fine(x, "winds(0, 65536, 1)", x.winds(0, 65536, 1), 29 + 11 + 38);
        Check.fine(x, "winds(0, 0, 99)", x.winds(0, 0, 99), 0);
        Check.fine(x, "winds(1, 0, 0)", x.winds(1, 0, 0), 81);
        Check.refused(x, "winds(4, 0, 0)", x.winds(4, 0, 0), 1);
        Check.refused(x, "winds(0, 65537, 0)", x.winds(0, 65537, 0), 2);
        Check.refused(x, "winds(0, -1, 0)", x.winds(0, -1, 0), 2);
        Check.refused(x, "winds(0, 0, 100)", x.winds(0, 0, 100), 2);
        Check.refused(x, "winds(0, 0, -1)", x.winds(0, 0, -1), 2);
        Check.fine(x, "windDuty(0, 1, 0, 1)", x.windDuty(0, 1, 0, 1), 86);
        Check.fine(x, "windDuty(0, 1, 65536, 1)", x.windDuty(0, 1, 65536, 1), 29 * 2 + 11 * 3);
        Check.fine(x, "windDuty(0, 0, 0, 1)", x.windDuty(0, 0, 0, 1), 0);
        Check.refused(x, "windDuty(0, 5, 0, 0)", x.windDuty(0, 5, 0, 0), 1);
        Check.refused(x, "windDuty(4, 0, 0, 0)", x.windDuty(4, 0, 0, 0), 1);
        Check.refused(x, "windDuty(0, 0, 65537, 0)", x.windDuty(0, 0, 65537, 0), 2);
        Check.refused(x, "windDuty(0, 0, 0, 100)", x.windDuty(0, 0, 0, 100), 2);
        Check.fine(x, "traveller(0, 4): nothing went by", x.traveller(0, 4), 0);
    }

    // Promises 37, 38.
    private static void waitingAndGoing() {
        SmellCustoms x = Check.told(WORLD);
        Check.fine(x, "waits(0, 1)", x.waits(0, 1), 1);
        Check.fine(x, "waits(0, 2)", x.waits(0, 2), 3);
        Check.fine(x, "strength(0, 0, 0)", x.strength(0, 0, 0), 27);
        Check.fine(x, "strength(0, 1, 0)", x.strength(0, 1, 0), 10);
        Check.fine(x, "strength(1, 0, 0): he alone waited", x.strength(1, 0, 0), 20);
        Check.fine(x, "traveller(1, 4)", x.traveller(1, 4), 0);
        Check.refused(x, "waits(0, 0)", x.waits(0, 0), 2);
        Check.refused(x, "waits(0, 100)", x.waits(0, 100), 2);
        Check.refused(x, "waits(4, 0)", x.waits(4, 0), 1);
        Check.fine(x, "go(0, 1)", x.go(0, 1), 25 * 2 + 9 * 3);
        Check.fine(x, "strength(0, 1, 0): nothing is left on him", x.strength(0, 1, 0), 9);
        Check.fine(x, "traveller(0, 2)", x.traveller(0, 2), 1);
        Check.fine(x, "traveller(0, 3)", x.traveller(0, 3), 77);
        Check.fine(x, "traveller(0, 4)", x.traveller(0, 4), 5);
        Check.fine(x, "go(0, 2)", x.go(0, 2), 44);
        Check.fine(x, "traveller(0, 3)", x.traveller(0, 3), 121);
        Check.refused(x, "go(0, 4)", x.go(0, 4), 5);
        Check.refused(x, "go(0, 2)", x.go(0, 2), 5);
        Check.refused(x, "go(0, 5)", x.go(0, 5), 1);
        Check.refused(x, "go(4, 0)", x.go(4, 0), 1);
        Check.due("size(11)", x.size(11), 4);
        Check.fine(x, "waits(0, 99)", x.waits(0, 99), 107);
        Check.fine(x, "claim(0, 0)", x.claim(0, 0), -2);
    }

    // Promises 39, 40.
    private static void sprayingAndWashing() {
        SmellCustoms x = Check.told(WORLD);
        Check.fine(x, "spray(0, 0, 99)", x.spray(0, 0, 99));
        Check.fine(x, "strength(0, 0, 0)", x.strength(0, 0, 0), 99);
        Check.refused(x, "spray(0, 0, 99)", x.spray(0, 0, 99), 5);
        Check.refused(x, "spray(0, 0, 100)", x.spray(0, 0, 100), 2);
        Check.refused(x, "spray(0, 0, -1)", x.spray(0, 0, -1), 2);
        Check.refused(x, "spray(0, 6, 100)", x.spray(0, 6, 100), 1);
        Check.refused(x, "spray(4, 0, 0)", x.spray(4, 0, 0), 1);
        Check.refused(x, "spray(0, 2, 0)", x.spray(0, 2, 0), 5);
        // 23 halves are a STRENGTH of 11, but not its two halves each.
        Check.fine(x, "waits(0, 1)", x.waits(0, 1), 1);
        Check.fine(x, "strength(0, 1, 0)", x.strength(0, 1, 0), 11);
        Check.fine(x, "spray(0, 1, 11)", x.spray(0, 1, 11));
        Check.refused(x, "spray(0, 1, 11)", x.spray(0, 1, 11), 5);
        Check.fine(x, "wash(0)", x.wash(0));
        Check.fine(x, "strength(0, 0, 0)", x.strength(0, 0, 0), 49);
        Check.fine(x, "strength(0, 1, 0)", x.strength(0, 1, 0), 5);
        Check.fine(x, "strength(0, 1, 1)", x.strength(0, 1, 1), 5);
        Check.fine(x, "strength(0, 1, 2)", x.strength(0, 1, 2), 4);
        Check.refused(x, "wash(4)", x.wash(4), 1);
        Check.refused(x, "wash(-1)", x.wash(-1), 1);
        // 22 halves of h: 11, 5, 2, 1, nothing.
        for (int i = 0; i < 5; i++) {
            Check.fine(x, "wash(2)", x.wash(2));
        }
        Check.refused(x, "wash(2)", x.wash(2), 5);
    }

    // Promise 41.
    private static void undoing() {
        SmellCustoms x = Check.told(WORLD);
        Check.refused(x, "undo()", x.undo(), 6);
        x.go(0, 1);
        x.spray(1, 0, 7);
        x.wash(1);
        x.waits(1, 3);
        Check.due("size(11)", x.size(11), 4);
        Check.fine(x, "undo()", x.undo());
        Check.fine(x, "traveller(1, 4)", x.traveller(1, 4), 0);
        Check.fine(x, "strength(1, 0, 0)", x.strength(1, 0, 0), 3);
        Check.fine(x, "undo()", x.undo());
        Check.fine(x, "strength(1, 0, 0)", x.strength(1, 0, 0), 7);
        Check.fine(x, "undo()", x.undo());
        Check.fine(x, "strength(1, 0, 0)", x.strength(1, 0, 0), 20);
        Check.fine(x, "traveller(0, 3)", x.traveller(0, 3), 89);
        Check.fine(x, "undo()", x.undo());
        Check.fine(x, "traveller(0, 2)", x.traveller(0, 2), 0);
        Check.fine(x, "traveller(0, 3)", x.traveller(0, 3), 0);
        Check.fine(x, "traveller(0, 4)", x.traveller(0, 4), 0);
        Check.fine(x, "strength(0, 0, 0)", x.strength(0, 0, 0), 30);
        Check.refused(x, "undo()", x.undo(), 6);
        // Sixteen are kept.
        for (int i = 1; i <= 20; i++) {
            Check.fine(x, "waits(3, 1)", x.waits(3, 1), i);
        }
        Check.due("size(11)", x.size(11), 16);
        for (int i = 0; i < 16; i++) {
            Check.fine(x, "undo()", x.undo());
        }
        Check.refused(x, "undo()", x.undo(), 6);
        Check.fine(x, "traveller(3, 4)", x.traveller(3, 4), 4);
        Check.fine(x, "strength(3, 0, 0)", x.strength(3, 0, 0), 46);
    }

    // Promises 42, 43.
    private static void marks() {
        SmellCustoms x = Check.told(WORLD);
        Check.refused(x, "back(0)", x.back(0), 1);
        Check.fine(x, "mark()", x.mark(), 0);
        x.go(0, 1);
        x.wash(2);
        Check.fine(x, "mark()", x.mark(), 1);
        Check.due("size(11)", x.size(11), 2);
        x.go(0, 2);
        Check.fine(x, "mark()", x.mark(), 2);
        Check.refused(x, "mark()", x.mark(), 3);
        Check.due("size(12)", x.size(12), 3);
        Check.fine(x, "back(0)", x.back(0));
        Check.fine(x, "traveller(0, 2)", x.traveller(0, 2), 0);
        Check.fine(x, "traveller(0, 3)", x.traveller(0, 3), 0);
        Check.fine(x, "traveller(0, 4)", x.traveller(0, 4), 0);
        Check.fine(x, "strength(2, 1, 0)", x.strength(2, 1, 0), 11);
        Check.due("size(11)", x.size(11), 0);
        Check.due("size(12): all stay", x.size(12), 3);
        Check.refused(x, "undo()", x.undo(), 6);
        x.waits(0, 5);
        Check.fine(x, "undo()", x.undo());
        Check.fine(x, "back(2)", x.back(2));
        Check.fine(x, "traveller(0, 2)", x.traveller(0, 2), 2);
        Check.fine(x, "traveller(0, 3)", x.traveller(0, 3), 139);
        Check.fine(x, "back(1)", x.back(1));
        Check.fine(x, "traveller(0, 2)", x.traveller(0, 2), 1);
        Check.fine(x, "strength(2, 1, 0)", x.strength(2, 1, 0), 5);
        x.waits(0, 9);
        Check.fine(x, "back(1) again", x.back(1));
        Check.fine(x, "traveller(0, 4)", x.traveller(0, 4), 2);
        x.waits(0, 9);
        Check.refused(x, "back(3)", x.back(3), 1);
        Check.refused(x, "back(-1)", x.back(-1), 1);
        Check.fine(x, "traveller(0, 4)", x.traveller(0, 4), 11);
        Check.due("size(11): one refused leaves it", x.size(11), 1);
    }

    // Promise 44; led() is no call that may be refused.
    private static void led() {
        SmellCustoms x = Check.told(WORLD);
        Check.due("led(0)", Check.led(x, 0), 2);
        Check.due("led(1)", Check.led(x, 1), -9);
        Check.due("led(-1)", Check.led(x, -1), -9);
        Check.refused(x, "place(9, 9)", x.place(9, 9), 1);
        Check.due("led(9)", Check.led(x, 9), -9);
        Check.due("led(0)", Check.led(x, 0), 2);
        Check.due("trouble() behind led", x.trouble(), 1);
        x.go(0, 1);
        Check.due("led(0)", Check.led(x, 0), 0);
        Check.due("led(1)", Check.led(x, 1), 2);
        Check.due("led(2)", Check.led(x, 2), -9);
        x.waits(2, 99);
        Check.due("led(1)", Check.led(x, 1), -9);
    }

    // Promises 45, 46.
    private static void sizes() {
        SmellCustoms x = Check.told(WORLD);
        int[] due = {4, 3, 6, 2, 5, 4, 2, 4, 3, 1, 2, 0, 0, 0};
        for (int what = 0; what < due.length; what++) {
            Check.due("size(" + what + ")", x.size(what), due[what]);
        }
        Check.refused(x, "waits(0, 0)", x.waits(0, 0), 2);
        Check.due("size(14)", x.size(14), -1);
        Check.due("size(-1)", x.size(-1), -1);
        Check.due("trouble() behind size", x.trouble(), 2);
        x.feed(0, 0, 0, 0, 0);
        x.waits(0, 1);
        x.mark();
        Check.due("size(11)", x.size(11), 1);
        Check.due("size(12)", x.size(12), 1);
        Check.due("size(13)", x.size(13), 20);
        Check.due("trouble()", x.trouble(), 0);
    }

    // Promise 22: DUTY is not asked where a WAY begins, though he may come from there with much on.
    private static void wayWithoutFirstPlace() {
        SmellCustoms x = Check.told("border wind 1;land a duty 1;land b duty 9;smell s plain from b;nose n skill 1"
                + ";place p in a nose n;place q in b nose n;path p q hours 1;traveller t simple home a at p;on t s 9");
        Check.fine(x, "duty(0, 0, 0)", x.duty(0, 0, 0), 81);
        Check.fine(x, "cheapest(0, 1)", x.cheapest(0, 1), 0);
        Check.fine(x, "secret(0, 1)", x.secret(0, 1), 1);
    }

    // Promises 28 to 32, 34: each call without another that would have looked ahead of it.
    private static void aloneOnNewObjects() {
        SmellCustoms x = Check.told(WORLD);
        Check.fine(x, "could()", x.could(), 15);
        x = Check.told(WORLD);
        Check.fine(x, "surely()", x.surely(), 3);
        x = Check.told(WORLD);
        Check.fine(x, "beenAt(1)", x.beenAt(1), 1);
        x = Check.told(WORLD);
        Check.fine(x, "postOf(2)", x.postOf(2), 1);
        x = Check.told(WORLD);
        Check.fine(x, "rest(0, 1)", x.rest(0, 1), 54);
        x = Check.told(WORLD);
        Check.fine(x, "walkedAt(0, 1)", x.walkedAt(0, 1), 50);
        x = Check.told(WORLD);
        Check.fine(x, "wayAt(1, 0, 2, 1)", x.wayAt(1, 0, 2, 1), 2);
    }

    // Promises 14, 20, 26, 30, 36, 40, 44 where one more or less would be another answer.
    private static void edges() {
        String start = "border wind 1;land a duty 1;land b duty 0;smell s plain from a;smell k cover from b"
                + ";nose n skill 5;nose m skill 1;place p in b nose m;place q in b nose n;path p q hours 1"
                + ";traveller t simple home a at p;traveller u simple home a at p;traveller v child home a at q"
                + ";traveller w bride home b at q;on u s 1";
        SmellCustoms x = Check.told(start + ";on t s 54;walk t p;walk u q;asked u 0");
        Check.fine(x, "cover(0, 1, 1)", x.cover(0, 1, 1), 99);
        x.spray(0, 0, 55);
        Check.fine(x, "cover(0, 1, 1)", x.cover(0, 1, 1), -2);
        Check.due("led(1), of whom 1 would be asked", Check.led(x, 1), 1);
        Check.fine(x, "claim(1, 0)", x.claim(1, 0), 0);
        Check.fine(x, "claim(1, 1)", x.claim(1, 1), -2);
        Check.fine(x, "windDuty(1, 0, 0, 0)", x.windDuty(1, 0, 0, 0), 1);
        Check.fine(x, "wrongly()", x.wrongly(), -2);
        Check.fine(x, "judge()", x.judge(), 0);
        Check.fine(x, "rests(0, 1) of two places", x.rests(0, 1), 1);
        Check.fine(x, "wash(1), who has the first smell alone", x.wash(1));
        Check.fine(x, "undo()", x.undo());
        Check.fine(x, "waits(1, 2)", x.waits(1, 2), 2);
        Check.refused(x, "wash(1)", x.wash(1), 5);
        Check.fine(x, "border()", Check.tell(x, start + ";whiff s 0"), 2);
        Check.fine(x, "judge() of four without walks", x.judge(), -2);
        Check.fine(x, "been()", x.been(), 4);
        Check.fine(x, "beenAt(0), of two with one place", x.beenAt(0), 0);
        Check.fine(x, "beenAt(1)", x.beenAt(1), -2);
        SmellCustoms y = Check.told("border wind 1;land a duty 1;place p in a;traveller t simple home a at p");
        Check.fine(y, "claim(0, 0) with one land", y.claim(0, 0), -2);
    }

    // Promises 33, 34: he is at the last place, and the first one is where most would be asked.
    private static void gameFromAnotherPlace() {
        SmellCustoms x = Check.told("border wind 1;land a duty 1;land b duty 1;smell s plain from a;place p in b"
                + ";place q in b;place r in a;path p r hours 1;path p q hours 1;path q r hours 4"
                + ";traveller t simple home a at r;traveller u simple home a at q;on t s 20;on u s 9");
        // By p and then q: 19 and 18; to q alone: 16. Of p: 19 and 0.
        Check.fine(x, "rests(0, 1)", x.rests(0, 1), 1);
        Check.fine(x, "rest(0, 1)", x.rest(0, 1), 16);
        Check.fine(x, "rests(1, 1)", x.rests(1, 1), 2);
        Check.fine(x, "rest(1, 1)", x.rest(1, 1), 0);
        // To p: 19 there; by q 16, and then 15.
        Check.fine(x, "rests(0, 0)", x.rests(0, 0), 0);
        Check.fine(x, "rest(0, 0)", x.rest(0, 0), -2);
        Check.fine(x, "rests(0, 2)", x.rests(0, 2), 2);
    }

    // Promise 3: travellers as told, nothing PAID, no hours, nothing to undo, no MARKS.
    private static void toldAnew() {
        SmellCustoms x = Check.told(WORLD);
        x.go(0, 1);
        x.mark();
        x.wash(1);
        Check.fine(x, "border()", Check.tell(x, WORLD), 5);
        Check.fine(x, "traveller(0, 2)", x.traveller(0, 2), 0);
        Check.fine(x, "traveller(0, 3)", x.traveller(0, 3), 0);
        Check.fine(x, "traveller(0, 4)", x.traveller(0, 4), 0);
        Check.fine(x, "strength(0, 0, 0)", x.strength(0, 0, 0), 30);
        Check.fine(x, "strength(1, 0, 0)", x.strength(1, 0, 0), 20);
        Check.refused(x, "undo()", x.undo(), 6);
        Check.refused(x, "back(0)", x.back(0), 1);
    }
}
