import java.util.ArrayList;
import java.util.Arrays;
import java.util.List;

/** The boundary cases of a desk's text: term I, promises 1 to 5 and 33. */
public final class EdgeTextTest {
    private static final String DESK = "desk keep 1 part 2 share even";
    private static final String PAYER = DESK + ";payer p weeks 1";
    private static final String ORDER = " rank 1 keep 0 total 0 sum 5 at p";
    private static final List<String> RESERVED = List.of("desk", "table", "payer", "order", "all");
    private static final List<String> FREE = List.of("keep", "part", "share", "even", "parts", "steps", "from", "take",
            "weeks", "rank", "total", "sum", "at");
    private static final Due due = new Due();

    public static void main(String[] args) {
        aNewObject();
        feedUpTo500();
        feedTheHighestFirst();
        deskOfNBytes();
        deskRefusedByTwo();
        deskRefusedByFour();
        deskFromNowOn();
        nothingOfEarlierOnes();
        faultOfTheLatest();
        whereOfTheLatest();
        sizeOfTheTape();
        tokens();
        noTokens();
        wholes();
        names();
        many();
        again();
        lacks();
        theEnd();
        theFirstFromTheLeft();
        everythingFull();
        EdgeTextPlaces.all(due);
        due.end("EdgeTextTest");
    }

    private static PayOrders fed(String text) {
        PayOrders x = new PayOrders();
        Due.feedAll(x, text);
        return x;
    }

    /** A text that is a desk. */
    private static PayOrders good(String text, int orders) {
        PayOrders x = new PayOrders();
        x.about(0);
        due.granted(x, "desk of <" + text + ">", Due.tell(x, text), orders);
        due.is("fault() of <" + text + ">", x.fault(), 0);
        due.is("where() of <" + text + ">", x.where(), -1);
        return x;
    }

    private static void aNewObject() {
        due.by("Promise 1, No DESK");
        PayOrders x = new PayOrders();
        due.is("size()", x.size(), 0);
        due.is("fault()", x.fault(), 0);
        due.is("where()", x.where(), -1);
        due.is("trouble()", x.trouble(), 0);
        due.noTurn(x, 0, 0);
        due.is("trouble() behind turn", x.trouble(), 0);
        due.refused(x, "about(0)", x.about(0), 1);
        due.refused(x, "about(5)", x.about(5), 1);
        due.is("where() behind 1", x.where(), -1);
    }

    private static void feedUpTo500() {
        due.by("Promise 2, NONE, and none comes, if there would be more than 500");
        String text = PAYER + " ".repeat(500 - PAYER.length() - 16) + ";payer q weeks 2";
        PayOrders x = new PayOrders();
        x.about(0);
        byte[] bytes = text.getBytes();
        for (int i = 0; i < 25; i++) {
            int at = 20 * i;
            due.is("feed to " + (at + 20), x.feed(Due.four(bytes, at), Due.four(bytes, at + 4),
                    Due.four(bytes, at + 8), Due.four(bytes, at + 12), Due.four(bytes, at + 16)), at + 20);
            due.is("size()", x.size(), at + 20);
        }
        due.is("feed to 520", x.feed(1, 2, 3, 4, 5), -1);
        due.is("feed to 520 again", x.feed(0, 0, 0, 0, 0), -1);
        due.is("size() then", x.size(), 500);
        due.is("trouble(), of which feed tells no number", x.trouble(), 1);
        due.is("none came", x.desk(500), 0);
        due.is("its PAYERS", x.about(4), 2);
        due.is("feed behind it", x.feed(0, 0, 0, 0, 0), 20);
    }

    private static void feedTheHighestFirst() {
        due.by("Promise 2, of each number the highest first");
        String text = "desk keep 12 part 34 share parts;payer abc weeks 4";
        PayOrders x = new PayOrders();
        x.feed(0x6465736b, 0x206b6565, 0x70203132, 0x20706172, 0x74203334);
        x.feed(0x20736861, 0x72652070, 0x61727473, 0x3b706179, 0x65722061);
        due.is("feed", x.feed(0x62632077, 0x65656b73, 0x20342020, 0x20202020, 0x20202020), 60);
        due.is("desk", x.desk(text.length()), 0);
        due.is("KEEP", x.about(0), 12);
        due.is("PART", x.about(1), 34);
        due.is("WEEKS", x.payer(0, 0), 4);
        for (int place = 0; place < 20; place++) {
            byte[] bytes = " ".repeat(20).getBytes();
            bytes[place] = (byte) 200;
            x.feed(Due.four(bytes, 0), Due.four(bytes, 4), Due.four(bytes, 8), Due.four(bytes, 12),
                    Due.four(bytes, 16));
            due.refused(x, "a byte of 200 at " + place, x.desk(20), 4);
            due.is("fault() of it", x.fault(), 1);
            due.is("where() of it", x.where(), place);
        }
    }

    private static void deskOfNBytes() {
        due.by("Promise 3, the first n bytes of THE TAPE");
        String text = PAYER + ";payer q weeks 2";
        PayOrders x = fed(text);
        due.granted(x, "as many as a line", x.desk(PAYER.length()), 0);
        due.is("PAYERS of it", x.about(4), 1);
        due.is("THE TAPE is empty then", x.size(), 0);
        x = fed(text);
        due.refused(x, "one more than a line", x.desk(PAYER.length() + 1), 4);
        due.is("where() of it", x.where(), PAYER.length() + 1);
        x = fed(text);
        due.refused(x, "one less than a line", x.desk(PAYER.length() - 1), 4);
        due.is("where() of it", x.where(), PAYER.length() - 1);
        x = fed(text);
        due.granted(x, "all of THE TAPE", x.desk(x.size()), 0);
        due.is("PAYERS of it", x.about(4), 2);
        x = fed(text);
        due.refused(x, "none of THE TAPE", x.desk(0), 4);
        due.is("fault() of none", x.fault(), 1);
        due.is("where() of none", x.where(), 0);
        due.is("THE TAPE is empty then, too", x.size(), 0);
        due.refused(x, "none of an empty one", x.desk(0), 4);
        due.is("where() of that", x.where(), 0);
    }

    private static void deskRefusedByTwo() {
        due.by("Promise 3, NONE: 2 (n; THE TAPE stays)");
        PayOrders x = new PayOrders();
        due.refused(x, "desk(1) of an empty TAPE", x.desk(1), 2);
        due.refused(x, "desk(-1) of an empty TAPE", x.desk(-1), 2);
        Due.tell(x, PAYER + ";order a" + ORDER);
        x.weeks(3);
        Due.feedAll(x, PAYER);
        int size = x.size();
        for (int n : new int[] {-1, Integer.MIN_VALUE, size + 1, 500, 501, Integer.MAX_VALUE}) {
            due.refused(x, "desk(" + n + ")", x.desk(n), 2);
            due.is("where() by 2", x.where(), -1);
            due.is("fault() as it was", x.fault(), 0);
            due.is("THE TAPE stays", x.size(), size);
        }
        due.is("the DESK stays", x.about(10), 15);
        due.is("a desk of what stayed", x.desk(PAYER.length()), 0);
        due.is("ORDERS of it", x.about(5), 0);
    }

    private static void deskRefusedByFour() {
        due.by("Promise 3, NONE: 4 (the DESK stays)");
        PayOrders x = new PayOrders();
        due.refused(x, "a FAULT with no DESK yet", Due.tell(x, DESK), 4);
        due.refused(x, "no DESK then", x.about(0), 1);
        Due.tell(x, "desk keep 3 part 4 share parts;table t all from 5 take 6;payer p weeks 2"
                + ";order a rank 7 keep 8 total 90 sum 10 at p");
        x.weeks(2);
        x.pay(0, 30);
        // what stands behind a FAULT has been read into nothing that is told
        due.refused(x, "a FAULT at the end", Due.tell(x, "desk keep 30 part 40 share even"
                + ";table u steps from 50 take 60 from 51 take 1;payer q weeks 4"
                + ";order b rank 1 keep 80 total 900 part 11 at q;payer r weeks 1;"), 4);
        due.is("THE TAPE is empty then", x.size(), 0);
        int[] about = {3, 4, 0, 1, 1, 1, 2, 1, 30, 14, 6, 1};
        int[] order = {7, 8, 90, 0, 10, 1, 14, 6, 76, 1, 0, 1};
        int[] payer = {2, 1, 30, 14, 1};
        int[] past = {0, 30, 6, 16, 2};
        for (int what = 0; what < 12; what++) {
            due.is("about(" + what + ") stays", x.about(what), about[what]);
            due.is("order(0, " + what + ") stays", x.order(0, what), order[what]);
        }
        for (int what = 0; what < 5; what++) {
            due.is("payer(0, " + what + ") stays", x.payer(0, what), payer[what]);
            due.is("past(0, " + what + ") stays", x.past(0, what), past[what]);
        }
        due.is("row(0, 0, 0) stays", x.row(0, 0, 0), 5);
        due.is("row(0, 0, 1) stays", x.row(0, 0, 1), 6);
        due.refused(x, "row(0, 1, 0)", x.row(0, 1, 0), 1);
        due.is("pastOf(0, 0, 0) stays", x.pastOf(0, 0, 0), 20);
        due.is("pastOf(0, 0, 1) stays", x.pastOf(0, 0, 1), 14);
    }

    private static void deskFromNowOn() {
        due.by("Promise 3, are the DESK from now on (WEEK 0, nothing OWED): how many ORDERS");
        PayOrders x = new PayOrders();
        StringBuilder text = new StringBuilder(PAYER);
        for (int orders = 0; orders <= 6; orders++) {
            due.granted(x, orders + " ORDERS", Due.tell(x, text.toString()), orders);
            due.is("ORDERS of it", x.about(5), orders);
            due.is("WEEK", x.about(6), 0);
            due.is("OWED", x.about(10), 0);
            due.is("TAKEN", x.about(9), 0);
            due.is("PAYS", x.about(7), 0);
            due.refused(x, "past(0, 0)", x.past(0, 0), 1);
            x.weeks(2);
            x.pay(0, 7);
            due.is("OWED behind two WEEKS and a PAY", x.about(10), orders == 0 ? 0 : 10 * orders - 6);
            text.append(";order ").append((char) ('a' + orders)).append(ORDER);
        }
    }

    private static void nothingOfEarlierOnes() {
        due.by("Promise 3, are the DESK from now on: nothing of earlier ones");
        String busy = "desk keep 9 part 8 share parts;table t all from 0 take 9 from 5 take 8;table u all from 0 take 7"
                + ";payer p weeks 1;payer q weeks 2;order a rank 1 keep 0 total 900 part 9 at p"
                + ";order b rank 1 keep 0 total 0 table u at q;order c rank 2 keep 0 total 0 sum 5 at all";
        String plain = "desk keep 0 part 0 share even;payer q weeks 3;table u steps from 7 take 1"
                + ";order b rank 4 keep 5 total 6 sum 7 at q;order c rank 4 keep 5 total 0 sum 8 at all";
        PayOrders x = new PayOrders();
        for (int i = 0; i < 2; i++) {
            Due.tell(x, busy);
            x.weeks(9);
            x.pay(0, 500);
            x.pay(1, 400);
            x.stop(0, true);
            x.stop(1, true);
        }
        PayOrders y = new PayOrders();
        for (int i = 0; i < 2; i++) {
            due.is("a plain one behind busy ones", Due.tell(x, plain), Due.tell(y, plain));
            same(x, y, "at first");
            due.is("weeks(4)", x.weeks(4), y.weeks(4));
            due.is("pay(0, 40)", x.pay(0, 40), y.pay(0, 40));
            same(x, y, "behind a PAY");
        }
    }

    /** What is told of a desk with a payer, a table and two orders, and of more than there are. */
    private static void same(PayOrders x, PayOrders y, String when) {
        for (int what = 0; what < 12; what++) {
            due.is(when + ", about(" + what + ")", x.about(what), y.about(what));
            for (int o = 0; o < 3; o++) {
                due.is(when + ", order(" + o + ", " + what + ")", x.order(o, what), y.order(o, what));
            }
        }
        for (int what = 0; what < 5; what++) {
            for (int i = 0; i < 2; i++) {
                due.is(when + ", payer(" + i + ", " + what + ")", x.payer(i, what), y.payer(i, what));
                due.is(when + ", past(" + i + ", " + what + ")", x.past(i, what), y.past(i, what));
                due.is(when + ", row(0, " + i + ", 0)", x.row(0, i, 0), y.row(0, i, 0));
                due.is(when + ", row(1, " + i + ", 0)", x.row(1, i, 0), y.row(1, i, 0));
            }
        }
    }

    private static void faultOfTheLatest() {
        due.by("Promise 4, the FAULT of the latest desk() not refused by 2; 0 without one");
        PayOrders x = new PayOrders();
        String[] texts = {"x", "desk keep 1000", PAYER + ";payer p", DESK + ";desk",
            PAYER + ";payer q weeks 1;payer r weeks 1;payer", DESK};
        for (int i = 0; i < texts.length; i++) {
            due.refused(x, "desk of <" + texts[i] + ">", Due.tell(x, texts[i]), 4);
            due.is("fault()", x.fault(), i + 1);
            due.refused(x, "desk(1) of no TAPE", x.desk(1), 2);
            due.is("fault() behind one refused by 2", x.fault(), i + 1);
            x.about(0);
            x.feed(0, 0, 0, 0, 0);
            due.refused(x, "desk(-1)", x.desk(-1), 2);
            due.is("fault() behind other calls", x.fault(), i + 1);
            x.feed(0, 0, 0, 0, 0);
            due.refused(x, "desk(40) of zeros", x.desk(40), 4);
            due.is("fault() of zeros", x.fault(), 1);
        }
        due.is("a desk without one", Due.tell(x, PAYER), 0);
        due.is("fault() without one", x.fault(), 0);
        due.refused(x, "desk(1) of no TAPE", x.desk(1), 2);
        due.is("fault() stays 0 by 2", x.fault(), 0);
    }

    private static void whereOfTheLatest() {
        due.by("Promise 5, its place, if the latest call that may be refused was by 4; NONE else");
        PayOrders x = Due.made(PAYER + ";order a" + ORDER);
        due.is("where() of one not refused", x.where(), -1);
        Due.tell(x, "desk x");
        due.is("where()", x.where(), 5);
        due.is("size() may not be refused", x.size(), 0);
        due.is("fault() may not be refused", x.fault(), 1);
        due.is("trouble() may not be refused", x.trouble(), 4);
        for (int i = 0; i < 26; i++) {
            x.feed(0, 0, 0, 0, 0);
        }
        due.is("turn(0, 0) tells no number", x.turn(0, 0), 0);
        due.noTurn(x, 0, 1);
        due.is("where() behind all these", x.where(), 5);
        due.is("where() again", x.where(), 5);
        due.is("trouble() behind all these", x.trouble(), 4);
        x.desk(501);
        due.is("where() by 2", x.where(), -1);
        x.desk(500);
        due.is("where() of zeros", x.where(), 0);
        x.about(99);
        due.is("where() by 1", x.where(), -1);
        x.desk(0);
        due.is("where() of nothing", x.where(), 0);
        x.stop(0, false);
        due.is("where() by 5", x.where(), -1);
        x.desk(0);
        x.about(0);
        due.is("where() by 0", x.where(), -1);
        due.is("fault() then yet", x.fault(), 1);
        Due.tell(x, PAYER);
        due.is("where() without a FAULT", x.where(), -1);
    }

    private static void sizeOfTheTape() {
        due.by("Promise 33, bytes of THE TAPE");
        PayOrders x = new PayOrders();
        due.is("at first", x.size(), 0);
        x.feed(0, 0, 0, 0, 0);
        due.is("behind one feed", x.size(), 20);
        x.desk(21);
        due.is("behind 2", x.size(), 20);
        x.desk(20);
        due.is("behind 4", x.size(), 0);
        Due.feedAll(x, PAYER);
        due.is("three feeds", x.size(), 60);
        x.desk(PAYER.length());
        due.is("behind a DESK", x.size(), 0);
    }

    private static void tokens() {
        due.by("Term I, blanks, 32, part TOKENS and mean nothing else");
        good("desk keep1part2share even;payer p weeks1;order a rank1keep2total3sum4at p", 1);
        good("   desk   keep  1  part 2   share even  ;  payer   p weeks   1   ", 0);
        due.faulty("^de sk keep 1", 1);
        due.faulty("^deskkeep 1", 1);
        due.faulty("desk keep 1 ^2 part 3", 1);
        due.faulty("desk keep 1^\tpart 2", 1);
        due.faulty("desk keep 1^\npart 2", 1);
        due.faulty("desk keep 1^!part 2", 1);
        due.faulty("desk keep 1^\u001fpart 2", 1);
        due.by("Term I, WORDS of 1 to 6 small letters that stand together");
        good(DESK + ";payer a weeks 1;payer z weeks 1;payer aaaaaa weeks 1", 0);
        good(DESK + ";payer zzzzzz weeks 1", 0);
        due.faulty(DESK + ";payer ^aaaaaaa weeks 1", 1);
        due.faulty(DESK + ";payer ^zzzzzzzzzzzz weeks 1", 1);
        due.faulty("^" + "desk".repeat(125), 1);
        due.by("Term I, WHOLES of 1 to 5 digits that do");
        due.is("five digits", good("desk keep 00999 part 00099 share even;payer p weeks 00004", 0).about(0), 999);
        due.is("nought", good("desk keep 00000 part 0 share even;payer p weeks 1", 0).about(0), 0);
        due.faulty("desk keep ^000999", 1);
        due.faulty("desk keep ^000000", 1);
        due.faulty("desk keep ^4294967297", 1);
        due.faulty("desk keep ^18446744073709551617", 1);
        due.by("Term I, single ones of ;");
        due.faulty(PAYER + ";^;payer q weeks 1", 1);
        due.faulty("^;" + PAYER, 1);
        due.faulty(PAYER + ";^", 1);
        good("desk keep 1 part 2 share even ; payer p weeks 1 ; payer q weeks 1", 0);
    }

    private static void noTokens() {
        due.by("Term I, 1 FORM: the first byte that begins no TOKEN");
        for (int b = 0; b < 256; b++) {
            boolean begins = b == ' ' || b == ';' || b >= 'a' && b <= 'z' || b >= '0' && b <= '9';
            if (!begins) {
                char c = (char) b;
                faultyAt(PAYER + c, PAYER.length(), 1);
                faultyAt(c + PAYER, 0, 1);
                faultyAt("desk keep 1" + c + " part 2 share even;payer p weeks 1", 11, 1);
                faultyAt("desk" + c + " keep 1", 4, 1);
            }
        }
    }

    /** As Due.faulty, for texts that may hold its mark. */
    private static void faultyAt(String text, int place, int fault) {
        PayOrders x = new PayOrders();
        due.refused(x, "desk of <" + text + ">", Due.tell(x, text), 4);
        due.is("fault() of <" + text + ">", x.fault(), fault);
        due.is("where() of <" + text + ">", x.where(), place);
    }

    private static void wholes() {
        due.by("Term I, desk: KEEP, 0 .. 999; PART, 0 .. 99");
        PayOrders x = good("desk keep 0 part 0 share even;payer p weeks 1", 0);
        due.is("KEEP", x.about(0), 0);
        due.is("PART", x.about(1), 0);
        x = good("desk keep 999 part 99 share even;payer p weeks 1", 0);
        due.is("KEEP", x.about(0), 999);
        due.is("PART", x.about(1), 99);
        due.by("Term I, table: FROM, 0 .. 9,999, each more than the one ahead; TAKE, 0 .. 99");
        x = good(PAYER + ";table t all from 0 take 0 from 1 take 99 from 9998 take 0 from 9999 take 99", 0);
        int[] froms = {0, 1, 9998, 9999};
        for (int i = 0; i < 4; i++) {
            due.is("FROM " + i, x.row(0, i, 0), froms[i]);
            due.is("TAKE " + i, x.row(0, i, 1), 99 * (i % 2));
        }
        due.is("FROM is by its own TABLE", good(PAYER + ";table t all from 9999 take 0;table u all from 0 take 0", 0)
                .row(1, 0, 0), 0);
        due.faulty(PAYER + ";table t all from 9999 take 0 from ^9999 take 0", 2);
        due.faulty(PAYER + ";table t all from 9999 take 0 from ^10000 take 0", 2);
        due.faulty(PAYER + ";table t all from 0 take 0 from ^0 take 0", 2);
        due.faulty(PAYER + ";table t steps from 7 take 0 from 9 take 0 from ^8 take 0", 2);
        due.by("Term I, payer: WEEKS, 1 .. 4");
        x = good(DESK + ";payer a weeks 1;payer b weeks 4", 0);
        due.is("WEEKS", x.payer(0, 0), 1);
        due.is("WEEKS", x.payer(1, 0), 4);
        due.by("Term I, order: RANK, 1 .. 9; KEEP, 0 .. 999; TOTAL, 0 .. 99,999; sum 1 .. 999; part 1 .. 99");
        x = good(PAYER + ";order a rank 1 keep 0 total 0 sum 1 at p;order b rank 9 keep 999 total 99999 sum 999 at p"
                + ";order c rank 1 keep 0 total 1 part 1 at p;order d rank 9 keep 1 total 99998 part 99 at p", 4);
        int[][] at = {{1, 0, 0, 0, 1}, {9, 999, 99_999, 0, 999}, {1, 0, 1, 2, 1}, {9, 1, 99_998, 2, 99}};
        for (int o = 0; o < 4; o++) {
            for (int what = 0; what < 5; what++) {
                due.is("order(" + o + ", " + what + ")", x.order(o, what), at[o][what]);
            }
        }
    }

    private static void names() {
        due.by("Term I, NAMES are WORDS but desk, table, payer, order, all");
        for (String word : RESERVED) {
            due.faulty(DESK + ";payer ^" + word + " weeks 1", 1);
            due.faulty(PAYER + ";table ^" + word + " all from 0 take 0", 1);
            due.faulty(PAYER + ";order ^" + word + ORDER, 1);
            due.faulty(PAYER + ";order a rank 1 keep 0 total 0 table ^" + word + " at p", 1);
            if (!word.equals("all")) {
                due.faulty(PAYER + ";order a rank 1 keep 0 total 0 sum 5 at ^" + word, 1);
            }
        }
        for (String word : FREE) {
            PayOrders x = good(DESK + ";table " + word + " all from 0 take 0;payer " + word + " weeks 1;order " + word
                    + " rank 1 keep 0 total 0 table " + word + " at " + word, 1);
            due.is("TABLE of it", x.order(0, 4), 0);
        }
        for (String word : new String[] {"desks", "des", "alls", "al", "tables", "payers", "orders"}) {
            good(DESK + ";payer " + word + " weeks 1", 0);
        }
        due.by("Term I, those of one sort are told once each");
        good(DESK + ";table x all from 0 take 0;payer x weeks 1;order x rank 1 keep 0 total 0 table x at x", 1);
        due.faulty(DESK + ";table x all from 0 take 0;table y all from 0 take 0;table ^x steps", 3);
        due.faulty(DESK + ";payer x weeks 1;payer y weeks 1;payer ^y weeks 2", 3);
        due.faulty(PAYER + ";order x" + ORDER + ";order y" + ORDER + ";order ^x rank", 3);
        good(DESK + ";payer a weeks 1;payer aa weeks 1;payer aaa weeks 1", 0);
        due.by("Term I, a NAME that isn't new must be told ahead");
        due.faulty(PAYER + ";order a rank 1 keep 0 total 0 table ^t at p;table t all from 0 take 0", 3);
        due.faulty(PAYER + ";order a rank 1 keep 0 total 0 sum 5 at ^q;payer q weeks 1", 3);
        due.faulty(PAYER + ";table t all from 0 take 0;order a rank 1 keep 0 total 0 table ^p at p", 3);
        due.faulty(PAYER + ";table t all from 0 take 0;order a rank 1 keep 0 total 0 table t at ^t", 3);
        due.faulty(PAYER + ";order a rank 1 keep 0 total 0 sum 5 at ^a", 3);
        due.faulty(PAYER + ";order a rank 1 keep 0 total 0 sum 5 at ^pp", 3);
        due.by("Term I, or all (of all PAYERS, of later ones, too)");
        PayOrders x = good(DESK + ";order a rank 1 keep 0 total 0 sum 5 at all;payer p weeks 1;payer q weeks 1"
                + ";payer r weeks 1;order b rank 1 keep 0 total 0 sum 5 at r", 2);
        due.is("PAYERS of all", x.order(0, 5), 7);
        due.is("PAYERS of the last", x.order(1, 5), 4);
        due.is("ORDERS at the last", x.payer(2, 4), 3);
        due.is("ORDERS at another", x.payer(1, 4), 1);
    }

    private static String tables(int n) {
        StringBuilder s = new StringBuilder();
        for (int i = 0; i < n; i++) {
            s.append(";table ").append((char) ('a' + i)).append(" all from 0 take 1");
        }
        return s.toString();
    }

    private static String payers(int n) {
        StringBuilder s = new StringBuilder();
        for (int i = 0; i < n; i++) {
            s.append(";payer ").append((char) ('p' + i)).append(" weeks 1");
        }
        return s.toString();
    }

    private static String orders(int n) {
        StringBuilder s = new StringBuilder();
        for (int i = 0; i < n; i++) {
            s.append(";order ").append((char) ('a' + i)).append(ORDER);
        }
        return s.toString();
    }

    private static String rows(int n) {
        StringBuilder s = new StringBuilder();
        for (int i = 0; i < n; i++) {
            s.append(" from ").append(i).append(" take ").append(i);
        }
        return s.toString();
    }

    private static void many() {
        due.by("Term I, 5 MANY: a fourth TABLE, PAYER, a seventh ORDER, at its WORD");
        due.is("three TABLES", good(PAYER + tables(3), 0).about(3), 3);
        due.faulty(PAYER + tables(3) + ";^table d all from 0 take 1", 5);
        due.faulty(PAYER + tables(3) + ";^table a", 5);
        due.faulty(PAYER + tables(3) + "; ^table", 5);
        due.is("three PAYERS", good(DESK + payers(3), 0).about(4), 3);
        due.faulty(DESK + payers(3) + ";^payer s weeks 1", 5);
        due.faulty(DESK + payers(3) + ";^payer p weeks 9", 5);
        due.faulty(DESK + payers(3) + ";^payer", 5);
        due.is("six ORDERS", good(PAYER + orders(6), 6).about(5), 6);
        due.faulty(PAYER + orders(6) + ";^order g" + ORDER, 5);
        due.faulty(PAYER + orders(6) + ";^order ?", 5);
        due.by("Term I, 5 MANY: a seventh ROW, at its from");
        due.is("six ROWS", good(PAYER + ";table t all" + rows(6), 0).row(0, 5, 1), 5);
        due.faulty(PAYER + ";table t all" + rows(6) + " ^from 6 take 6", 5);
        due.faulty(PAYER + ";table t steps" + rows(6) + "^from 0", 5);
        due.faulty(PAYER + ";table t steps" + rows(6) + " ^from", 5);
        due.faulty(PAYER + tables(2) + ";table t all" + rows(6) + " ^from;", 5);
        due.is("ROWS are counted by TABLE", good(PAYER + ";table t all" + rows(6) + ";table u all" + rows(6), 0)
                .row(1, 5, 0), 5);
    }

    private static void again() {
        due.by("Term I, 4 AGAIN: a second desk, at that WORD");
        due.faulty(DESK + ";^desk", 4);
        due.faulty(DESK + ";  ^" + DESK, 4);
        due.faulty(PAYER + ";^desk keep 1000", 4);
        due.faulty(PAYER + orders(6) + tables(3) + ";^desk ?", 4);
    }

    private static void lacks() {
        due.by("Term I, 6 LACKS: any LINE ahead of the desk, at its WORD");
        due.faulty("^table t all from 0 take 0;" + PAYER, 6);
        due.faulty("   ^payer p weeks 1;" + DESK, 6);
        due.faulty("^order a" + ORDER + ";" + PAYER, 6);
        due.faulty("^payer p weeks 9", 6);
        due.faulty("^table", 6);
        due.by("Term I, 6 LACKS: at the end: no PAYER");
        due.faulty(DESK + "^", 6);
        due.faulty(DESK + "   ^", 6);
        due.faulty(DESK + tables(3) + "^", 6);
        due.faulty(DESK + ";order a rank 1 keep 0 total 0 sum 1 at all^", 6);
        PayOrders x = fed(DESK + ";payer p weeks 1");
        due.refused(x, "cut ahead of the PAYER", x.desk(DESK.length()), 4);
        due.is("fault() of it", x.fault(), 6);
        due.is("where() of it", x.where(), DESK.length());
        due.by("Term I, 6 LACKS: one PAYER is enough");
        good(PAYER, 0);
    }

    private static void theEnd() {
        due.by("Term I, 1 FORM: TOKEN with which no DESK goes on (the end: its place)");
        due.faulty("^", 1);
        due.faulty(" ^", 1);
        due.faulty(" ".repeat(500) + "^", 1);
        due.faulty(DESK + ";^", 1);
        due.faulty(DESK + ";   ^", 1);
        due.faulty("desk keep^", 1);
        due.faulty("desk keep    ^", 1);
        due.faulty(PAYER + " ".repeat(499 - PAYER.length()) + ";^", 1);
        PayOrders x = new PayOrders();
        due.is("500 bytes", Due.tell(x, " ".repeat(500 - PAYER.length()) + PAYER), 0);
        due.refused(x, "499 of them", cut(x, " ".repeat(500 - PAYER.length()) + PAYER, 499), 4);
        due.is("fault()", x.fault(), 1);
        due.is("where()", x.where(), 499);
    }

    private static int cut(PayOrders x, String text, int n) {
        Due.feedAll(x, text);
        return x.desk(n);
    }

    private static void theFirstFromTheLeft() {
        due.by("Term I, FAULTS, the first that is met from the left");
        due.faulty("desk keep ^1000 part 100 share odd", 2);
        due.faulty("desk keep 1 part 2 share ^odd;payer p weeks 5", 1);
        due.faulty(DESK + ";payer p weeks ^5;payer p weeks 1;desk", 2);
        due.faulty(PAYER + ";payer ^p weeks 5", 3);
        due.faulty(DESK + ";^desk;payer p weeks 5", 4);
        due.faulty(DESK + payers(3) + ";^payer p weeks 5;desk", 5);
        due.faulty("^payer all", 6);
        due.faulty("^payer p weeks 1;desk keep 1000", 6);
        due.faulty(DESK + ";order a rank ^0 keep 1 total 1 sum 1 at q", 2);
        due.faulty(DESK + ";order a rank 1 keep 1 total 1 sum 1 at ^q", 3);
        due.faulty(PAYER + ";table t all" + rows(5) + " from ^4 take 1 from 7 take 1 from 8 take 1", 2);
        due.by("Term I, of one place the least number");
        due.faulty(DESK + ";^", 1);
        due.faulty(DESK + tables(1) + " from^", 1);
        due.faulty("^", 1);
    }

    private static void everythingFull() {
        due.by("Term I, THE TAPE has 500 bytes: a DESK with all there may be");
        StringBuilder s = new StringBuilder("desk keep1part2share even");
        for (char t = 'a'; t < 'd'; t++) {
            s.append(";table ").append(t).append(" all");
            for (int i = 0; i < 6; i++) {
                s.append(i == 0 ? " from" : "from").append(i).append("take").append(i);
            }
        }
        for (char p = 'a'; p < 'd'; p++) {
            s.append(";payer ").append(p).append(" weeks4");
        }
        for (char o = 'a'; o < 'g'; o++) {
            s.append(";order ").append(o).append(" rank1keep0total0sum1at ").append((char) ('a' + (o - 'a') / 2));
        }
        int spare = 500 - s.length();
        due.is("it has room", spare >= 0 ? 1 : 0, 1);
        List<String> fills = new ArrayList<>(Arrays.asList(" ".repeat(spare) + s, s + " ".repeat(spare)));
        for (String text : fills) {
            PayOrders x = good(text, 6);
            due.is("TABLES", x.about(3), 3);
            due.is("PAYERS", x.about(4), 3);
            due.is("ORDERS", x.about(5), 6);
            due.is("the last ROW", x.row(2, 5, 0), 5);
            due.is("PAYERS of the last ORDER", x.order(5, 5), 4);
            due.is("LIVE ORDERS", x.about(11), 63);
            due.is("ORDERS of the last PAYER", x.payer(2, 4), 48);
        }
    }
}
