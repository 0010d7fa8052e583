import java.util.NoSuchElementException;

/** How the class is used. README.md shows this file, and ReadmeTest holds the two together. */
public final class Example {
    public static void main(String[] args) {
        SmellCustoms customs = new SmellCustoms();
        int places = tell(customs, "border wind 3; land a duty 2; land b duty 3"
                + "; smell camphor plain from a; smell ginger cover from b; nose n skill 5"
                + "; place p in a; place q in b nose n; path p q hours 2"
                + "; traveller t simple home a at p; on t camphor 30");
        System.out.println("places: " + places);

        // Traveller 0 is t, smell 0 camphor, smell 1 ginger, place 0 p, place 1 q.
        System.out.println("duty at q, if he were there now: " + customs.duty(0, 1, 0));
        System.out.println("duty on the cheapest way to q: " + customs.cheapest(0, 1));
        System.out.println("ginger by which nothing is asked: " + customs.cover(0, 1, 1));

        System.out.println("asked when he goes to q: " + customs.go(0, 1));
        System.out.println("first of whom duty would be asked: " + customs.led(0));
        System.out.println("undone: " + customs.undo() + ", he has paid " + customs.traveller(0, 3));
        System.out.println("sprayed: " + customs.spray(0, 1, 50) + ", asked at q: " + customs.go(0, 1));

        // A call that is refused answers NONE or false, and trouble() tells why.
        boolean refused = customs.go(0, 1) == SmellCustoms.NONE;
        System.out.println("refused: " + refused + ", trouble " + customs.trouble());
        tell(customs, "border wind 6");
        System.out.println("trouble " + customs.trouble() + ", fault " + customs.fault() + " at " + customs.where());

        // led() alone throws.
        try {
            customs.led(0);
        } catch (NoSuchElementException e) {
            System.out.println("of nobody would duty be asked");
        }
    }

    /** Feeds a text twenty bytes at a time, four in each number, the highest first; blanks fill up the last twenty. */
    static int tell(SmellCustoms customs, String text) {
        for (int from = 0; from < text.length(); from += 20) {
            customs.feed(four(text, from), four(text, from + 4), four(text, from + 8), four(text, from + 12),
                    four(text, from + 16));
        }
        return customs.border(text.length());
    }

    private static int four(String text, int from) {
        int number = 0;
        for (int i = from; i < from + 4; i++) {
            number = number << 8 | (i < text.length() ? text.charAt(i) : ' ');
        }
        return number;
    }
}
