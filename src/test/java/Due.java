import java.nio.charset.StandardCharsets;
import java.util.NoSuchElementException;

/** Counts answers that are not as due, and writes desks onto tapes. */
final class Due {
    private String sentence = "";
    private int wrong;
    private int asked;

    /** The promise or the term, with its words, by which the answers behind it are due. */
    void by(String words) {
        sentence = words + ": ";
    }

    void is(String call, long got, long want) {
        asked++;
        if (got != want) {
            wrong++;
            System.out.println(sentence + call + " answered " + got + ", due is " + want);
        }
    }

    /** A call that is answered, as trouble() tells. */
    void granted(PayOrders x, String call, int got, int want) {
        is(call, got, want);
        is("trouble() behind " + call, x.trouble(), 0);
    }

    /** A refused call: NONE, and the trouble that is told. */
    void refused(PayOrders x, String call, int got, int trouble) {
        is(call, got, PayOrders.NONE);
        is("trouble() behind " + call, x.trouble(), trouble);
    }

    void noTurn(PayOrders x, int p, int i) {
        asked++;
        try {
            int o = x.turn(p, i);
            wrong++;
            System.out.println(sentence + "turn(" + p + ", " + i + ") answered " + o + ", due is an exception");
        } catch (NoSuchElementException e) {
            return;
        }
    }

    /** A text with a fault; the sign ^, which no text has, marks its place. */
    void faulty(String marked, int fault) {
        PayOrders x = new PayOrders();
        String text = marked.replace("^", "");
        refused(x, "desk of <" + marked + ">", tell(x, text), 4);
        is("fault() of <" + marked + ">", x.fault(), fault);
        is("where() of <" + marked + ">", x.where(), marked.indexOf('^'));
    }

    void end(String test) {
        System.out.println(test + ": " + asked + " answers, " + wrong + " not as due");
        if (wrong != 0 || asked == 0) {
            System.exit(1);
        }
    }

    static PayOrders made(String text) {
        PayOrders x = new PayOrders();
        if (tell(x, text) == PayOrders.NONE) {
            System.out.println("not a desk: " + text + " (fault " + x.fault() + " at " + x.where() + ")");
            System.exit(1);
        }
        return x;
    }

    static int tell(PayOrders x, String text) {
        feedAll(x, text);
        return x.desk(text.length());
    }

    static void feedAll(PayOrders x, String text) {
        byte[] bytes = text.getBytes(StandardCharsets.ISO_8859_1);
        for (int i = 0; i < bytes.length; i += 20) {
            x.feed(four(bytes, i), four(bytes, i + 4), four(bytes, i + 8), four(bytes, i + 12), four(bytes, i + 16));
        }
    }

    static int four(byte[] bytes, int at) {
        int n = 0;
        for (int i = at; i < at + 4; i++) {
            n = n << 8 | (i < bytes.length ? bytes[i] & 255 : ' ');
        }
        return n;
    }
}
