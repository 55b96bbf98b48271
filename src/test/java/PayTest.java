/** Promises 13, 14, 23 and 24: weeks, pays, sharing, the log. */
public final class PayTest {
    private static final Due due = new Due();

    public static void main(String[] args) {
        weeksPass();
        sumsAndFloors();
        wants();
        ranksGoOnWithWhatIsLeft();
        sharedEvenly();
        sharedByParts();
        downFromFloorToFloor();
        shortIsCarriedOn();
        theLog();
        due.end("PayTest");
    }

    private static String desk(int keep, int part, String share) {
        return "desk keep " + keep + " part " + part + " share " + share + ";payer p weeks 1;payer q weeks 2";
    }

    private static String order(char name, int rank, int keep, int total, String kind) {
        return ";order " + name + " rank " + rank + " keep " + keep + " total " + total + " " + kind + " at all";
    }

    private static void took(PayOrders x, String when, int... want) {
        for (int o = 0; o < want.length; o++) {
            due.is(when + ": TOOK of " + o, x.pastOf(0, o, 1), want[o]);
        }
    }

    private static void weeksPass() {
        PayOrders x = Due.made(desk(0, 0, "even") + order('a', 1, 0, 100, "sum 30") + order('b', 1, 0, 0, "sum 999")
                + order('c', 1, 0, 0, "part 50"));
        due.is("weeks(1)", x.weeks(1), 1029);
        due.is("weeks(3), REST at most", x.weeks(3), 100 + 4 * 999);
        due.is("about(6)", x.about(6), 4);
        due.refused(x, "weeks(0)", x.weeks(0), 2);
        due.refused(x, "weeks(61)", x.weeks(61), 2);
        due.is("about(6) behind refusals", x.about(6), 4);
        due.is("weeks(60)", x.weeks(60), 100 + 64 * 999);
        x.stop(0, true);
        x.forgive(0);
        x.stop(1, true);
        due.is("weeks(5), both stopped", x.weeks(5), 64 * 999);
        x.stop(1, false);
        for (int i = 0; i < 16; i++) {
            x.weeks(60);
        }
        due.is("OWED, without end", x.order(1, 7), 999_999);
        due.is("OWED at 999,999 wanted", x.would(0, 9999, 1, 0), 999_999);
    }

    private static void sumsAndFloors() {
        PayOrders x = Due.made(desk(40, 30, "even") + order('a', 1, 0, 0, "sum 100"));
        due.refused(x, "pay(2, -1)", x.pay(2, -1), 1);
        due.refused(x, "pay(-1, 0)", x.pay(-1, 0), 1);
        due.refused(x, "pay(0, -1)", x.pay(0, -1), 2);
        due.refused(x, "pay(0, 10000)", x.pay(0, 10000), 2);
        due.is("nothing owed", x.pay(0, 500), 500);
        x.weeks(2);
        due.is("less than FLOOR", x.pay(0, 39), 39);
        due.is("KEEP is left", x.pay(0, 60), 40);
        due.is("KEEP of two weeks is left", x.pay(1, 90), 80);
        due.is("PART is left, the greater whole", x.pay(0, 141), 43);
        due.is("OWED", x.order(0, 7), 200 - 20 - 10 - 98);
        due.is("all it is OWED", x.pay(0, 9999), 9999 - 72);
        due.is("PAYS", x.order(0, 11), 4);
        due.is("pay(1, 0)", x.pay(1, 0), 0);
    }

    private static void wants() {
        PayOrders x = Due.made("desk keep 10 part 0 share even;table t all from 0 take 33;payer p weeks 1"
                + order('a', 1, 0, 0, "sum 7") + order('b', 1, 0, 40, "table t") + order('c', 1, 0, 0, "part 15"));
        x.weeks(1);
        due.is("pay(0, 110)", x.pay(0, 110), 110 - 7 - 36 - 15);
        int[] wanted = {7, 36, 15};
        for (int o = 0; o < 3; o++) {
            due.is("WANTED of " + o, x.pastOf(0, o, 0), wanted[o]);
        }
        due.is("pay(0, 5)", x.pay(0, 5), 5);
        due.is("a table wants of NET", x.pastOf(0, 1, 0), 1);
        due.is("and what is short is OWED", x.order(1, 7), 1);
        due.is("a part wants of what is above FLOOR", x.pastOf(0, 2, 0), 0);
        due.is("pay(0, 100), REST at most", x.pay(0, 100), 100 - 4 - 13);
        due.is("WANTED then", x.pastOf(0, 1, 0), 4);
        due.is("pay(0, 100), b at its total", x.pay(0, 100), 87);
        due.is("WANTED if not LIVE", x.pastOf(0, 1, 0), 0);
    }

    private static void ranksGoOnWithWhatIsLeft() {
        PayOrders x = Due.made(desk(10, 0, "even") + order('a', 9, 0, 0, "part 50") + order('b', 2, 0, 0, "part 50")
                + order('c', 2, 0, 0, "part 20") + order('d', 1, 0, 0, "sum 10"));
        x.weeks(1);
        // 100 above the FLOOR with d gone; b 50, c 20 of it; 30 are left then, a 15 of them
        due.is("pay(0, 120)", x.pay(0, 120), 25);
        took(x, "by ranks", 15, 50, 20, 10);
    }

    private static void sharedEvenly() {
        PayOrders x = Due.made(desk(0, 0, "even") + order('a', 1, 0, 0, "sum 100") + order('b', 1, 0, 0, "sum 7")
                + order('c', 1, 0, 0, "sum 100") + order('d', 1, 0, 0, "sum 20"));
        x.weeks(1);
        // 25 each: b 7, d 20; 23 still for two: 11 each, 1 to a
        due.is("pay(0, 100)", x.pay(0, 100), 0);
        took(x, "evenly", 37, 7, 36, 20);
        PayOrders y = Due.made(desk(0, 0, "even") + order('a', 1, 0, 0, "sum 5") + order('b', 1, 0, 0, "sum 5")
                + order('c', 1, 0, 0, "sum 5"));
        y.weeks(1);
        due.is("pay(0, 2)", y.pay(0, 2), 0);
        took(y, "fewer than they are", 1, 1, 0);
        due.is("pay(0, 8)", y.pay(0, 8), 0);
        took(y, "again", 3, 3, 2);
        due.is("pay(0, 5)", y.pay(0, 5), 0);
        took(y, "all of it", 1, 1, 3);
    }

    private static void sharedByParts() {
        PayOrders x = Due.made(desk(0, 0, "parts") + order('a', 1, 0, 0, "sum 100") + order('b', 1, 0, 0, "sum 7")
                + order('c', 1, 0, 0, "sum 100") + order('d', 1, 0, 0, "sum 20"));
        x.weeks(1);
        // of 227 wanted: 44.05, 3.08, 44.05, 8.8
        due.is("pay(0, 100)", x.pay(0, 100), 0);
        took(x, "by parts", 45, 3, 44, 8);
        PayOrders y = Due.made(desk(0, 0, "parts") + order('a', 1, 0, 0, "sum 999") + order('b', 1, 0, 0, "sum 999"));
        for (int i = 0; i < 17; i++) {
            y.weeks(60);
        }
        due.is("great parts", y.pay(0, 9999), 0);
        took(y, "great parts", 5000, 4999);
    }

    private static void downFromFloorToFloor() {
        String orders = order('a', 1, 50, 0, "sum 30") + order('b', 1, 20, 0, "sum 40") + order('c', 1, 0, 0, "sum 60");
        PayOrders x = Due.made(desk(10, 0, "even") + orders);
        x.weeks(1);
        // above 50: 20 for three: 7, 7, 6; above 20: 30 for b and c, 15 each; above 10: 10 for c
        due.is("evenly, pay(0, 70)", x.pay(0, 70), 10);
        took(x, "evenly down", 7, 22, 31);
        PayOrders y = Due.made(desk(10, 0, "parts") + orders);
        y.weeks(1);
        // above 50: 20 of 130: 4, 6, 9 and 1 for a; above 20: 30 by 34 and 51: 12, 18; above 10: 10 for c
        due.is("by parts, pay(0, 70)", y.pay(0, 70), 10);
        took(y, "by parts down", 5, 18, 37);
        PayOrders z = Due.made(desk(10, 0, "even") + orders);
        z.weeks(1);
        due.is("KEEP of two weeks, pay(1, 70)", z.pay(1, 70), 20);
        took(z, "of two weeks", 0, 15, 35);
        z.forgive(0);
        z.forgive(1);
        due.is("c has all it wants yet", z.pay(0, 70), 45);
        PayOrders w = Due.made(desk(0, 0, "even") + order('a', 1, 51, 0, "part 1") + order('b', 1, 0, 0, "sum 99")
                + order('c', 1, 0, 0, "sum 99"));
        w.weeks(1);
        // a wants nothing, so 51 is no number to share above: 62 are shared at once
        due.is("pay(0, 62)", w.pay(0, 62), 0);
        took(w, "one that wants nothing has no floor", 0, 31, 31);
        PayOrders v = Due.made(desk(48, 0, "even") + order('a', 1, 0, 0, "sum 1") + order('b', 1, 0, 0, "sum 1")
                + order('c', 1, 0, 0, "sum 10") + order('d', 1, 50, 0, "sum 5"));
        v.weeks(1);
        // above 50: 4, 1 each; above 48: 2, and c alone wants yet, so both are for it
        due.is("pay(0, 54)", v.pay(0, 54), 48);
        took(v, "those that have all are no more counted", 1, 1, 3, 1);
    }

    private static void shortIsCarriedOn() {
        PayOrders x = Due.made("desk keep 90 part 0 share even;table t steps from 0 take 50;payer p weeks 1"
                + order('a', 1, 0, 60, "table t") + order('b', 2, 0, 0, "part 10"));
        due.is("pay(0, 100)", x.pay(0, 100), 90);
        due.is("OWED of a table", x.order(0, 7), 40);
        due.is("OWED of a part", x.order(1, 7), 0);
        x.weeks(5);
        due.is("no week adds to it", x.order(0, 7), 40);
        due.is("pay(0, 100) again", x.pay(0, 100), 90);
        due.is("WANTED, REST at most", x.pastOf(0, 0, 0), 50);
        due.is("OWED then", x.order(0, 7), 40);
        due.is("pay(0, 200)", x.pay(0, 200), 160 - 7);
        due.is("REST 0", x.order(0, 8), 0);
        due.is("OWED 0", x.order(0, 7), 0);
        PayOrders y = Due.made("desk keep 0 part 0 share even;table t all from 0 take 50;payer p weeks 1"
                + order('a', 1, 60, 0, "table t") + order('b', 1, 60, 0, "part 60"));
        due.is("both are short", y.pay(0, 61), 60);
        due.is("OWED of a", y.order(0, 7), 29);
        due.is("OWED of b", y.order(1, 7), 36);
        due.is("PAYS from which a TOOK 1", y.order(0, 11), 1);
        y.pay(0, 300);
        due.is("a WANTED, and OWED", y.pastOf(0, 0, 0), 179);
        due.is("b WANTED, and OWED", y.pastOf(0, 1, 0), 216);
    }

    private static void theLog() {
        PayOrders x = Due.made(desk(10, 0, "even") + order('a', 1, 0, 0, "sum 10"));
        for (int i = 0; i < 13; i++) {
            due.refused(x, "past(" + i + ", 0)", x.past(i, 0), 1);
            x.weeks(1);
            x.pay(i % 2, 100 + i);
            due.is("past(" + i + ", 0)", i < 12 ? x.past(i, 0) : 0, 0);
        }
        due.refused(x, "past(12, 0)", x.past(12, 0), 1);
        due.refused(x, "past(-1, 0)", x.past(-1, 0), 1);
        due.refused(x, "past(0, 5)", x.past(0, 5), 1);
        due.refused(x, "past(0, -1)", x.past(0, -1), 1);
        int[] oldest = {1, 101, 20, 91, 2};
        int[] latest = {0, 112, 10, 102, 13};
        for (int what = 0; what < 5; what++) {
            due.is("past(11, " + what + ")", x.past(11, what), oldest[what]);
            due.is("past(0, " + what + ")", x.past(0, what), latest[what]);
        }
        due.is("pastOf(11, 0, 0)", x.pastOf(11, 0, 0), 10);
        due.is("pastOf(11, 0, 1)", x.pastOf(11, 0, 1), 10);
        due.refused(x, "pastOf(12, 0, 0)", x.pastOf(12, 0, 0), 1);
        due.refused(x, "pastOf(0, 1, 0)", x.pastOf(0, 1, 0), 1);
        due.refused(x, "pastOf(0, 0, 2)", x.pastOf(0, 0, 2), 1);
        due.refused(x, "pastOf(0, 0, -1)", x.pastOf(0, 0, -1), 1);
    }
}
