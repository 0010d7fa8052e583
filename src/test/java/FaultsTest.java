/** Promises 3, 4, 5: each FAULT, its place, and which of several is told. The sign ^ stands ahead of the place due. */
public final class FaultsTest {
    private static final String START = "border wind 3;land a duty 2;place p in a";
    private static final String MORE = START + ";land b duty 0;smell s plain from a;nose n skill 5;place q in b nose n"
            + ";traveller t simple home a at p";

    private static void fault(int number, String marked) {
        int at = marked.indexOf('^');
        String text = marked.substring(0, at) + marked.substring(at + 1);
        SmellCustoms x = new SmellCustoms();
        Check.feed(x, text);
        Check.due("border() of " + marked, x.border(text.length()), -1);
        Check.due("trouble() of " + marked, x.trouble(), 4);
        Check.due("fault() of " + marked, x.fault(), number);
        Check.due("where() of " + marked, x.where(), at);
        Check.due("size(13) of " + marked, x.size(13), 0);
        Check.due("size(4) of " + marked, x.size(4), 0);
    }

    private static void good(String text, int places) {
        SmellCustoms x = new SmellCustoms();
        Check.fine(x, "border() of " + text, Check.tell(x, text), places);
        Check.due("fault() of " + text, x.fault(), 0);
    }

    public static void main(String[] args) {
        form();
        tokens();
        names();
        again();
        bounds();
        many();
        lacks();
        goodOnes();
        whatStays();
        Check.end("FaultsTest");
    }

    private static void form() {
        fault(1, "^");
        fault(1, "   ^");
        fault(1, "^;");
        fault(1, "^foo");
        fault(1, "^in");
        fault(1, "^7");
        fault(1, "border^");
        fault(1, "border  ^");
        fault(1, "border ^3");
        fault(1, "border ^winds 3");
        fault(1, "border wind ^x");
        fault(1, "border wind ^;");
        fault(1, "border wind 3^,");
        fault(1, "border wind 3 ^4");
        fault(1, "border wind 3 ^land a duty 2");
        fault(1, "border wind 3;^");
        fault(1, "border wind 3;^;land a duty 2");
        fault(1, START + ";^");
        fault(1, START + "; ^in");
        fault(1, START + "; ^wind 3");
        fault(1, START + ";land ^5 duty 2");
        fault(1, START + ";land b ^2");
        fault(1, START + ";land b duty^");
        fault(1, START + ";smell s ^odd from a");
        fault(1, START + ";smell s plain ^a");
        fault(1, START + ";nose n ^5");
        fault(1, START + ";place q ^a");
        fault(1, START + ";place q in a ^n");
        fault(1, START + ";place q in a nose^");
        fault(1, START + ";path p ^;");
        fault(1, MORE + ";path p q ^3");
        fault(1, MORE + ";leaves p s^");
        fault(1, MORE + ";traveller u ^odd home a at p");
        fault(1, MORE + ";traveller u bride ^a at p");
        fault(1, MORE + ";traveller u bride home a ^in p");
        fault(1, MORE + ";on t s ^s");
        fault(1, MORE + ";walk t^");
        fault(1, MORE + ";walk t q ^p");
        fault(1, MORE + ";walk t q,^");
        fault(1, MORE + ";walk t q,^,p");
        fault(1, MORE + ";walk t p,p,p,p,p,^");
        fault(1, MORE + ";walk t p,p,p,p,p,^on");
        fault(1, MORE + ";asked t ^t");
        fault(1, MORE + ";whiff s ^,");
        String[] reserved = {"border", "land", "smell", "nose", "place", "path", "leaves", "traveller", "on", "walk",
            "asked", "whiff", "in"};
        for (String word : reserved) {
            fault(1, START + ";land ^" + word + " duty 2");
            fault(1, START + ";smell s plain from ^" + word);
        }
    }

    private static void tokens() {
        fault(1, "^Border wind 3");
        fault(1, "border wind ^-3");
        fault(1, "border wind ^123");
        fault(1, "border wind ^003");
        fault(1, "border wind 3^.");
        fault(1, "border wind 3;land ^abcdefghij duty 2");
        fault(1, "^borderwind 3");
        fault(1, "^\0border wind 3");
        fault(1, "border wind 3" + "^" + (char) 255);
        fault(1, "border^\nwind 3");
        fault(1, START + ";nose n skill ^100");
    }

    private static void names() {
        fault(2, START + ";smell s plain from ^b");
        fault(2, START + ";smell s plain from ^p");
        fault(2, START + ";smell s plain from ^s");
        fault(2, START + ";place q in ^q");
        fault(2, START + ";place q in ^p");
        fault(2, START + ";place q in a nose ^a");
        fault(2, START + ";path ^a p");
        fault(2, START + ";path p ^a");
        fault(2, MORE + ";leaves ^s p 3");
        fault(2, MORE + ";leaves p ^p 3");
        fault(2, MORE + ";traveller u child home ^p at p");
        fault(2, MORE + ";traveller u child home a at ^u");
        fault(2, MORE + ";on ^p s 3");
        fault(2, MORE + ";on t ^n 3");
        fault(2, MORE + ";walk ^p p");
        fault(2, MORE + ";walk t ^t");
        fault(2, MORE + ";walk t p,p,p,p,p,^zz");
        fault(2, MORE + ";walk t p,p,p,p,p,^a");
        fault(2, MORE + ";asked ^zz 3");
        fault(2, MORE + ";whiff ^t 3");
    }

    private static void again() {
        fault(3, START + ";land ^a duty 2");
        fault(3, START + ";land ^p duty 2");
        fault(3, START + ";place ^a in a");
        fault(3, START + ";smell ^p plain from a");
        fault(3, START + ";nose ^p skill 3");
        fault(3, MORE + ";traveller ^t simple home a at p");
        fault(3, MORE + ";path p ^p hours 3");
        fault(3, MORE + ";path p q hours 3;path p ^q hours 4");
        fault(3, MORE + ";path p q hours 3;path q ^p hours 4");
        fault(3, MORE + ";path p q hours 1;path q ^p hours 1");
        fault(3, MORE + ";leaves p s 1;leaves p ^s 4");
        fault(3, MORE + ";on t s 1;on t ^s 4");
        fault(3, MORE + ";leaves p s 3;leaves p ^s 4");
        fault(3, MORE + ";on t s 3;on t ^s 4");
        fault(3, MORE + ";walk t p;walk ^t p");
        fault(3, MORE + ";whiff s 0;whiff ^s 4");
        fault(3, "border wind 3;^border wind 3");
        fault(3, "border wind 3;^border");
        fault(3, START + "; ^border zz");
    }

    private static void bounds() {
        fault(4, "border wind ^0");
        fault(4, "border wind ^6");
        fault(4, "border wind ^99;land");
        fault(4, "border wind 1;land a duty ^10");
        fault(4, START + ";nose n skill ^0");
        fault(4, START + ";nose n skill ^61");
        fault(4, MORE + ";path p q hours ^00");
        fault(4, MORE + ";path p q hours ^41");
        fault(4, MORE + ";leaves p s ^0");
        fault(4, MORE + ";leaves p s ^61");
        fault(4, MORE + ";on t s ^0");
        fault(4, MORE + ";whiff s ^61");
    }

    private static String lines(int count, String line) {
        StringBuilder text = new StringBuilder();
        for (int i = 0; i < count; i++) {
            text.append(';').append(line.replace('#', (char) ('c' + i)));
        }
        return text.toString();
    }

    private static final String ALL = "border wind 1" + lines(4, "land l# duty 1") + lines(6, "smell s# plain from lc")
            + lines(4, "nose n# skill 1") + lines(6, "place p# in lc") + lines(4, "traveller t# child home lc at pc");

    private static String ten() {
        return ";path pc pd hours 1;path pc pe hours 1;path pc pf hours 1;path pc pg hours 1;path pc ph hours 1"
                + ";path pd pe hours 1;path pd pf hours 1;path pd pg hours 1;path pd ph hours 1;path pe pf hours 1";
    }

    private static void many() {
        fault(5, ALL + ";^land");
        fault(5, ALL + ";^smell");
        fault(5, ALL + ";^nose n skill 99");
        fault(5, ALL + ";^place");
        fault(5, ALL + ";^traveller");
        fault(5, ALL + ten() + ";^path zz");
        fault(5, ALL + lines(6, "leaves pc s# 1") + ";leaves pd sc 1;leaves pd sd 1;^leaves");
        fault(5, ALL + lines(6, "on tc s# 1") + lines(6, "on td s# 1") + ";^on te");
        fault(5, ALL + lines(4, "asked tc 1") + ";^asked");
        fault(5, ALL + ";walk tc pc,pd,pe,pd,pc,^pd");
        fault(3, ALL + lines(4, "walk t# pc") + ";walk ^tc pc");
        fault(3, ALL + lines(6, "whiff s# 1") + ";whiff ^sc 1");
    }

    private static void lacks() {
        fault(6, "^land a duty 2");
        fault(6, "  ^on");
        fault(6, "^whiff 5");
        fault(6, "border wind 3^");
        fault(6, "border wind 3  ^");
        fault(6, "border wind 3;land a duty 2^");
        fault(6, "border wind 3;land a duty 2;nose n skill 5 ^");
    }

    private static void goodOnes() {
        good(START, 1);
        good("  border wind 05 ;land a duty9; place p in a  ", 1);
        good("border wind1;land a duty 0;place p in a", 1);
        good("border wind 5;land wind duty 9;smell plain plain from wind;nose at skill 60;place from in wind nose at"
                + ";place hours in wind;path from hours hours 40;traveller home bride home wind at from"
                + ";on home plain 99;walk home hours,from,hours,from,hours;asked home 99;whiff plain 60", 2);
        good("border wind 5;land abcdefghi duty 9;place abcdefgh in abcdefghi", 1);
        good(MORE + ";place r in a nose n;leaves p s 60;leaves r s 1;on t s 1;asked t 0;asked t 0;whiff s 0", 3);
        good(ALL + ten() + lines(6, "leaves pc s# 1") + ";leaves pd sc 1;leaves pd sd 1" + lines(4, "asked td 7"), 6);
        good(ALL + lines(6, "on tc s# 1") + lines(6, "on td s# 1") + lines(4, "walk t# pc") + lines(6, "whiff s# 1"), 6);
    }

    /** What a refused border() leaves as it was. */
    private static void whatStays() {
        SmellCustoms x = Check.told(MORE + ";on t s 30;path p q hours 2");
        Check.fine(x, "go(0, 1)", x.go(0, 1), 56);
        Check.fine(x, "mark()", x.mark(), 0);
        Check.due("border()", Check.tell(x, "border wind 3;land b duty 2"), -1);
        Check.due("fault()", x.fault(), 6);
        Check.due("where()", x.where(), 27);
        Check.due("size(4)", x.size(4), 2);
        Check.due("size(11)", x.size(11), 1);
        Check.due("size(12)", x.size(12), 1);
        Check.due("where() still", x.where(), 27);
        Check.fine(x, "traveller(0, 3)", x.traveller(0, 3), 56);
        Check.due("fault() still", x.fault(), 6);
        Check.refused(x, "border(-1)", x.border(-1), 2);
        Check.due("fault() behind one refused by 2", x.fault(), 6);
        Check.feed(x, "x");
        Check.refused(x, "border(21)", x.border(21), 2);
        Check.due("size(13)", x.size(13), 20);
        Check.due("border(1)", x.border(1), -1);
        Check.due("fault()", x.fault(), 1);
        Check.due("where()", x.where(), 0);
        Check.fine(x, "border()", Check.tell(x, START), 1);
        Check.due("fault()", x.fault(), 0);
        Check.due("size(11)", x.size(11), 0);
        Check.due("size(12)", x.size(12), 0);
        Check.due("size(7)", x.size(7), 0);
        Check.refused(x, "traveller(0, 3)", x.traveller(0, 3), 1);
    }
}
