/** The boundary cases of what calls may be told: term IV, promises 6 to 32 and 34, call by call. */
public final class EdgeCallTest {
    private static final int LEAST = Integer.MIN_VALUE;
    private static final int MOST = Integer.MAX_VALUE;
    private static final String ONE = "NONE: 1";
    private static final String WHAT = "NONE: 1 (what, too)";
    private static final String TWO = "NONE: 2";
    private static final String AHEAD = "refusals are met in the order in which a call tells them";
    private static final int[] NETS = {-1, 10_000, LEAST, MOST};
    private static final int[] ORDERS = {-1, 6, 7, LEAST, MOST};
    private static final int[] THREE = {-1, 3, 4, LEAST, MOST};
    private static final String TEXT = "desk keep 10 part 20 share even"
            + ";table a all from 0 take 1"
            + ";table b steps from0take1from1take2from2take3from3take4from4take5from5take6"
            + ";table c all from 100 take 50"
            + ";payer p weeks 1;payer q weeks 2;payer r weeks 4"
            + ";order a rank1keep0total0sum10at all"
            + ";order b rank2keep30total500table c at p"
            + ";order c rank2keep0total90part30at q"
            + ";order d rank9keep0total0part2at r"
            + ";order e rank1keep0total5sum5at p"
            + ";order f rank3keep0total0table a at all";
    private static final Due due = new Due();
    private static String promise = "";

    /** A call with a number that the test puts in. */
    private interface Call {
        int of(PayOrders x, int n);
    }

    public static void main(String[] args) {
        theDesk();
        tables();
        floors();
        theLog();
        wouldBe();
        runs();
        weeksAndPays();
        acts();
        moreActs();
        turn();
        noDesk();
        nothingThere();
        troubleStays();
        due.end("EdgeCallTest");
    }

    /** e is at its total, f is stopped, the tape has 20 bytes, and three pays are in the log. */
    private static PayOrders made() {
        PayOrders x = Due.made(TEXT);
        x.weeks(2);
        x.pay(0, 200);
        x.pay(1, 300);
        x.pay(2, 15);
        x.stop(5, true);
        x.feed(0, 0, 0, 0, 0);
        return x;
    }

    private static void of(String words) {
        promise = words;
    }

    /** Each of these numbers is refused, with that trouble, and nothing is other than it was. */
    private static void refused(String words, int trouble, String call, int[] numbers, Call c) {
        due.by(promise + ", " + words);
        int[] before = state(made());
        for (int n : numbers) {
            String told = call.replace("#", Integer.toString(n));
            PayOrders x = made();
            x.weeks(61);
            due.refused(x, told, c.of(x, n), trouble);
            due.is("where() behind " + told, x.where(), -1);
            int[] behind = state(x);
            for (int i = 0; i < before.length; i++) {
                due.is("what is told " + i + " behind " + told, behind[i], before[i]);
            }
        }
    }

    /** Each of these numbers is taken. */
    private static void taken(String words, String call, int[] numbers, Call c) {
        due.by(promise + ", " + words);
        for (int n : numbers) {
            String told = call.replace("#", Integer.toString(n));
            PayOrders x = made();
            due.is("about(99)", x.about(99), -1);
            due.is(told + " is refused", c.of(x, n) == -1 ? 1 : 0, 0);
            due.is("trouble() behind " + told, x.trouble(), 0);
        }
    }

    private static int[] to(int... numbers) {
        return numbers;
    }

    private static int[] state(PayOrders x) {
        int[] all = new int[12 + 72 + 15 + 15 + 36 + 2];
        int at = 0;
        for (int what = 0; what < 12; what++) {
            all[at++] = x.about(what);
            for (int o = 0; o < 6; o++) {
                all[at++] = x.order(o, what);
            }
        }
        for (int i = 0; i < 3; i++) {
            for (int what = 0; what < 5; what++) {
                all[at++] = x.payer(i, what);
                all[at++] = x.past(i, what);
            }
            for (int o = 0; o < 6; o++) {
                all[at++] = x.pastOf(i, o, 0);
                all[at++] = x.pastOf(i, o, 1);
            }
        }
        all[at++] = x.size();
        all[at++] = x.fault();
        return all;
    }

    private static void theDesk() {
        of("Promise 6, about");
        refused(WHAT, 1, "about(#)", to(-1, 12, LEAST, MOST), (x, n) -> x.about(n));
        taken(WHAT, "about(#)", to(0, 11), (x, n) -> x.about(n));
        of("Promise 7, order");
        refused(ONE, 1, "order(#, 0)", ORDERS, (x, n) -> x.order(n, 0));
        refused(WHAT, 1, "order(0, #)", to(-1, 12, LEAST, MOST), (x, n) -> x.order(0, n));
        refused(WHAT, 1, "order(6, #)", to(-1, 12), (x, n) -> x.order(6, n));
        taken(ONE, "order(#, 0)", to(0, 5), (x, n) -> x.order(n, 0));
        taken(WHAT, "order(5, #)", to(0, 11), (x, n) -> x.order(5, n));
        of("Promise 8, payer");
        refused(ONE, 1, "payer(#, 0)", THREE, (x, n) -> x.payer(n, 0));
        refused(WHAT, 1, "payer(2, #)", to(-1, 5, LEAST, MOST), (x, n) -> x.payer(2, n));
        taken(ONE, "payer(#, 4)", to(0, 2), (x, n) -> x.payer(n, 4));
        taken(WHAT, "payer(2, #)", to(0, 4), (x, n) -> x.payer(2, n));
    }

    private static void tables() {
        of("Promise 9, table");
        refused(ONE, 1, "table(#, 0, 1)", THREE, (x, n) -> x.table(n, 0, 1));
        refused(TWO + ", NET 0 .. 9,999", 2, "table(0, #, 1)", NETS, (x, n) -> x.table(0, n, 1));
        refused(TWO + ", WEEKS 1 .. 4", 2, "table(0, 0, #)", to(0, 5, -1, LEAST, MOST), (x, n) -> x.table(0, 0, n));
        refused(AHEAD, 1, "table(3, #, 1)", NETS, (x, n) -> x.table(3, n, 1));
        refused(AHEAD, 1, "table(-1, 0, #)", to(0, 5), (x, n) -> x.table(-1, 0, n));
        taken(ONE, "table(#, 0, 1)", to(0, 2), (x, n) -> x.table(n, 0, 1));
        taken(TWO, "table(2, #, 4)", to(0, 9999), (x, n) -> x.table(2, n, 4));
        taken(TWO, "table(1, 9999, #)", to(1, 4), (x, n) -> x.table(1, 9999, n));
        of("Promise 10, row");
        refused(ONE, 1, "row(#, 0, 0)", THREE, (x, n) -> x.row(n, 0, 0));
        refused(ONE, 1, "row(0, #, 0)", to(-1, 1, 5, LEAST, MOST), (x, n) -> x.row(0, n, 0));
        refused(ONE, 1, "row(1, #, 0)", to(-1, 6, LEAST, MOST), (x, n) -> x.row(1, n, 0));
        refused(WHAT, 1, "row(1, 5, #)", to(-1, 2, LEAST, MOST), (x, n) -> x.row(1, 5, n));
        taken(ONE, "row(#, 0, 0)", to(0, 2), (x, n) -> x.row(n, 0, 0));
        taken(ONE, "row(1, #, 1)", to(0, 5), (x, n) -> x.row(1, n, 1));
        taken(WHAT, "row(1, 5, #)", to(0, 1), (x, n) -> x.row(1, 5, n));
    }

    private static void floors() {
        of("Promise 11, floor");
        refused(ONE, 1, "floor(#, 0)", THREE, (x, n) -> x.floor(n, 0));
        refused(TWO, 2, "floor(0, #)", NETS, (x, n) -> x.floor(0, n));
        refused(AHEAD, 1, "floor(3, #)", NETS, (x, n) -> x.floor(3, n));
        taken(ONE, "floor(#, 0)", to(0, 2), (x, n) -> x.floor(n, 0));
        taken(TWO, "floor(2, #)", to(0, 9999), (x, n) -> x.floor(2, n));
        of("Promise 12, ownFloor");
        refused(ONE, 1, "ownFloor(#, 0, 0)", ORDERS, (x, n) -> x.ownFloor(n, 0, 0));
        refused(ONE, 1, "ownFloor(0, #, 0)", THREE, (x, n) -> x.ownFloor(0, n, 0));
        refused(TWO, 2, "ownFloor(0, 0, #)", NETS, (x, n) -> x.ownFloor(0, 0, n));
        refused(AHEAD, 1, "ownFloor(6, 0, #)", NETS, (x, n) -> x.ownFloor(6, 0, n));
        refused(AHEAD, 1, "ownFloor(0, 3, #)", NETS, (x, n) -> x.ownFloor(0, 3, n));
        taken("at that PAYER or not", "ownFloor(1, #, 0)", to(0, 1, 2), (x, n) -> x.ownFloor(1, n, 0));
        taken("at its total, or stopped", "ownFloor(#, 0, 9999)", to(0, 4, 5), (x, n) -> x.ownFloor(n, 0, 9999));
    }

    private static void theLog() {
        of("Promise 13, past");
        refused(ONE, 1, "past(#, 0)", to(-1, 3, 11, 12, LEAST, MOST), (x, n) -> x.past(n, 0));
        refused(WHAT, 1, "past(0, #)", to(-1, 5, LEAST, MOST), (x, n) -> x.past(0, n));
        taken(ONE, "past(#, 4)", to(0, 2), (x, n) -> x.past(n, 4));
        taken(WHAT, "past(2, #)", to(0, 4), (x, n) -> x.past(2, n));
        of("Promise 14, pastOf");
        refused(ONE, 1, "pastOf(#, 0, 0)", to(-1, 3, 12, LEAST, MOST), (x, n) -> x.pastOf(n, 0, 0));
        refused(ONE, 1, "pastOf(0, #, 0)", ORDERS, (x, n) -> x.pastOf(0, n, 0));
        refused(WHAT, 1, "pastOf(0, 0, #)", to(-1, 2, LEAST, MOST), (x, n) -> x.pastOf(0, 0, n));
        taken(ONE, "pastOf(#, 5, 1)", to(0, 2), (x, n) -> x.pastOf(n, 5, 1));
        taken(ONE, "pastOf(2, #, 0)", to(0, 5), (x, n) -> x.pastOf(2, n, 0));
        taken(WHAT, "pastOf(2, 5, #)", to(0, 1), (x, n) -> x.pastOf(2, 5, n));
    }

    private static void wouldBe() {
        of("Promise 15, would");
        refused(ONE, 1, "would(#, 0, 0, 0)", THREE, (x, n) -> x.would(n, 0, 0, 0));
        refused(ONE, 1, "would(0, 0, #, 0)", ORDERS, (x, n) -> x.would(0, 0, n, 0));
        refused(WHAT, 1, "would(0, 0, 0, #)", to(-1, 3, LEAST, MOST), (x, n) -> x.would(0, 0, 0, n));
        refused(TWO, 2, "would(0, #, 0, 0)", NETS, (x, n) -> x.would(0, n, 0, 0));
        refused(AHEAD, 1, "would(3, #, 0, 0)", NETS, (x, n) -> x.would(3, n, 0, 0));
        refused(AHEAD, 1, "would(0, #, 6, 0)", NETS, (x, n) -> x.would(0, n, 6, 0));
        refused(AHEAD, 1, "would(0, #, 0, 3)", NETS, (x, n) -> x.would(0, n, 0, 3));
        taken(WHAT, "would(2, 9999, 5, #)", to(0, 2), (x, n) -> x.would(2, 9999, 5, n));
        taken(TWO, "would(2, #, 3, 2)", to(0, 9999), (x, n) -> x.would(2, n, 3, 2));
        of("Promise 16, left");
        refused(ONE, 1, "left(#, 0)", THREE, (x, n) -> x.left(n, 0));
        refused(TWO, 2, "left(0, #)", NETS, (x, n) -> x.left(0, n));
        refused(AHEAD, 1, "left(3, #)", NETS, (x, n) -> x.left(3, n));
        taken(TWO, "left(2, #)", to(0, 9999), (x, n) -> x.left(2, n));
        of("Promise 17, ranked");
        refused(ONE, 1, "ranked(#, 0, 1)", THREE, (x, n) -> x.ranked(n, 0, 1));
        refused(TWO, 2, "ranked(0, #, 1)", NETS, (x, n) -> x.ranked(0, n, 1));
        refused(TWO + ", a RANK 1 .. 9", 2, "ranked(0, 0, #)", to(0, 10, -1, LEAST, MOST), (x, n) -> x.ranked(0, 0, n));
        refused(AHEAD, 1, "ranked(3, #, 1)", NETS, (x, n) -> x.ranked(3, n, 1));
        refused(AHEAD, 1, "ranked(3, 0, #)", to(0, 10), (x, n) -> x.ranked(3, 0, n));
        taken(TWO, "ranked(2, #, 9)", to(0, 9999), (x, n) -> x.ranked(2, n, 9));
        taken(TWO, "ranked(2, 9999, #)", to(1, 9), (x, n) -> x.ranked(2, 9999, n));
        of("Promise 18, enough");
        refused(ONE, 1, "enough(#, 0)", ORDERS, (x, n) -> x.enough(n, 0));
        refused(ONE, 1, "enough(0, #)", THREE, (x, n) -> x.enough(0, n));
        refused("NONE: 5 (not LIVE there), REST 0 and STOPPED", 5, "enough(#, 0)", to(4, 5), (x, n) -> x.enough(n, 0));
        refused("NONE: 5 (not LIVE there), elsewhere", 5, "enough(#, 0)", to(2, 3), (x, n) -> x.enough(n, 0));
        refused(AHEAD, 1, "enough(5, #)", THREE, (x, n) -> x.enough(5, n));
        taken("LIVE at a PAYER", "enough(#, 0)", to(0, 1), (x, n) -> x.enough(n, 0));
        of("Promise 19, first");
        refused(ONE, 1, "first(#, 0)", ORDERS, (x, n) -> x.first(n, 0));
        refused(ONE, 1, "first(0, #)", THREE, (x, n) -> x.first(0, n));
        taken("-2 none, of those not LIVE there, too", "first(#, 0)", to(2, 3, 4, 5), (x, n) -> x.first(n, 0) == -2 ? 0 : -1);
    }

    private static void runs() {
        int[] lengths = {0, 201, -1, LEAST, MOST};
        of("Promise 20, done");
        refused(ONE, 1, "done(#, 0)", ORDERS, (x, n) -> x.done(n, 0));
        refused(TWO, 2, "done(0, #)", NETS, (x, n) -> x.done(0, n));
        refused(TWO + ", with REST 0, too", 2, "done(4, #)", NETS, (x, n) -> x.done(4, n));
        refused(AHEAD, 1, "done(6, #)", NETS, (x, n) -> x.done(6, n));
        taken(TWO, "done(5, #)", to(0, 9999), (x, n) -> x.done(5, n));
        taken(ONE, "done(#, 1)", to(0, 5), (x, n) -> x.done(n, 1));
        of("Promise 21, ahead");
        refused(ONE, 1, "ahead(#, 0, 1, 0)", ORDERS, (x, n) -> x.ahead(n, 0, 1, 0));
        refused(WHAT, 1, "ahead(0, 0, 1, #)", to(-1, 2, LEAST, MOST), (x, n) -> x.ahead(0, 0, 1, n));
        refused(TWO, 2, "ahead(0, #, 1, 0)", NETS, (x, n) -> x.ahead(0, n, 1, 0));
        refused(TWO + ", n (1 .. 200)", 2, "ahead(0, 0, #, 0)", lengths, (x, n) -> x.ahead(0, 0, n, 0));
        refused(AHEAD, 1, "ahead(6, #, 1, 0)", NETS, (x, n) -> x.ahead(6, n, 1, 0));
        refused(AHEAD, 1, "ahead(6, 0, #, 0)", lengths, (x, n) -> x.ahead(6, 0, n, 0));
        refused(AHEAD, 1, "ahead(0, #, 1, 2)", NETS, (x, n) -> x.ahead(0, n, 1, 2));
        refused(AHEAD, 1, "ahead(0, 0, #, -1)", lengths, (x, n) -> x.ahead(0, 0, n, -1));
        taken(TWO, "ahead(5, 9999, #, 1)", to(1, 200), (x, n) -> x.ahead(5, 9999, n, 1));
        taken(TWO, "ahead(0, #, 200, 0)", to(0, 9999), (x, n) -> x.ahead(0, n, 200, 0));
        of("Promise 22, steady");
        refused(TWO + ", n (1 .. 20)", 2, "steady(#)", to(0, 21, -1, LEAST, MOST), (x, n) -> x.steady(n));
        taken(TWO, "steady(#)", to(1, 20), (x, n) -> x.steady(n));
    }

    private static void weeksAndPays() {
        of("Promise 23, weeks");
        refused(TWO + ", n (1 .. 60)", 2, "weeks(#)", to(0, 61, -1, LEAST, MOST), (x, n) -> x.weeks(n));
        taken(TWO, "weeks(#)", to(1, 60), (x, n) -> x.weeks(n));
        of("Promise 24, pay");
        refused(ONE, 1, "pay(#, 0)", THREE, (x, n) -> x.pay(n, 0));
        refused(TWO, 2, "pay(0, #)", NETS, (x, n) -> x.pay(0, n));
        refused(AHEAD, 1, "pay(3, #)", NETS, (x, n) -> x.pay(3, n));
        taken(TWO, "pay(2, #)", to(0, 9999), (x, n) -> x.pay(2, n));
        taken(ONE, "pay(#, 0)", to(0, 2), (x, n) -> x.pay(n, 0));
    }

    private static void acts() {
        of("Promise 25, stop");
        refused(ONE, 1, "stop(#, true)", ORDERS, (x, n) -> x.stop(n, true));
        refused(ONE, 1, "stop(#, false)", ORDERS, (x, n) -> x.stop(n, false));
        refused("NONE: 5 (it is so)", 5, "stop(#, true)", to(5), (x, n) -> x.stop(n, true));
        refused("NONE: 5 (it is so)", 5, "stop(#, false)", to(0, 1, 2, 3, 4), (x, n) -> x.stop(n, false));
        taken("NONE: 5 (it is so)", "stop(#, false)", to(5), (x, n) -> x.stop(n, false));
        taken("one at its total, too", "stop(#, true)", to(0, 4), (x, n) -> x.stop(n, true));
        of("Promise 26, rank");
        refused(ONE, 1, "rank(#, 1)", ORDERS, (x, n) -> x.rank(n, 1));
        refused(TWO + ", RANK (1 .. 9)", 2, "rank(0, #)", to(0, 10, -1, LEAST, MOST), (x, n) -> x.rank(0, n));
        refused(AHEAD, 1, "rank(6, #)", to(0, 10), (x, n) -> x.rank(6, n));
        taken(TWO, "rank(5, #)", to(1, 3, 9), (x, n) -> x.rank(5, n));
        of("Promise 27, raise");
        refused(ONE, 1, "raise(#, 1)", ORDERS, (x, n) -> x.raise(n, 1));
        refused("NONE: 5 (a table)", 5, "raise(#, 1)", to(1, 5), (x, n) -> x.raise(n, 1));
        refused(TWO + ", sum (1 .. 999)", 2, "raise(0, #)", to(0, 1000, -1, LEAST, MOST), (x, n) -> x.raise(0, n));
        refused(TWO + ", hundredths (1 .. 99)", 2, "raise(2, #)", to(0, 100, 999, -1, LEAST, MOST),
                (x, n) -> x.raise(2, n));
        refused(AHEAD, 5, "raise(1, #)", to(0, 1000, -1, LEAST, MOST), (x, n) -> x.raise(1, n));
        refused(AHEAD, 1, "raise(6, #)", to(0, 1000), (x, n) -> x.raise(6, n));
        taken(TWO, "raise(0, #)", to(1, 100, 999), (x, n) -> x.raise(0, n));
        taken(TWO, "raise(2, #)", to(1, 99), (x, n) -> x.raise(2, n));
        taken("one at its total, too", "raise(4, #)", to(1, 999), (x, n) -> x.raise(4, n));
    }

    private static void moreActs() {
        int[] totals = {-1, 100_000, LEAST, MOST};
        of("Promise 28, total");
        refused(ONE, 1, "total(#, 0)", ORDERS, (x, n) -> x.total(n, 0));
        refused(TWO, 2, "total(0, #)", totals, (x, n) -> x.total(0, n));
        refused(AHEAD, 1, "total(6, #)", totals, (x, n) -> x.total(6, n));
        refused("NONE: 5 (above 0 and less than it TOOK)", 5, "total(4, #)", to(1, 4), (x, n) -> x.total(4, n));
        taken(TWO, "total(4, #)", to(0, 5, 6, 99_999), (x, n) -> x.total(4, n));
        of("Promise 29, at");
        refused(ONE, 1, "at(#, 1)", ORDERS, (x, n) -> x.at(n, 1));
        refused(TWO + ", 1 .. 7", 2, "at(0, #)", to(0, 8, -1, LEAST, MOST), (x, n) -> x.at(0, n));
        refused(AHEAD, 1, "at(6, #)", to(0, 8), (x, n) -> x.at(6, n));
        taken(TWO, "at(0, #)", to(1, 2, 3, 4, 5, 6, 7), (x, n) -> x.at(0, n));
        of("Promise 30, back");
        refused(ONE, 1, "back(#, 1)", ORDERS, (x, n) -> x.back(n, 1));
        refused(TWO + ", n (1 .. 99,999)", 2, "back(4, #)", to(0, 100_000, -1, LEAST, MOST), (x, n) -> x.back(4, n));
        refused("NONE: 5 (more than it TOOK)", 5, "back(4, #)", to(6, 99_999), (x, n) -> x.back(4, n));
        refused("NONE: 5 (more than it TOOK), nothing", 5, "back(3, #)", to(1), (x, n) -> x.back(3, n));
        refused(AHEAD, 1, "back(6, #)", to(0, 100_000), (x, n) -> x.back(6, n));
        taken("NONE: 5 (more than it TOOK)", "back(4, #)", to(1, 5), (x, n) -> x.back(4, n));
        of("Promise 31, forgive");
        refused(ONE, 1, "forgive(#)", ORDERS, (x, n) -> x.forgive(n));
        taken(ONE, "forgive(#)", to(0, 4, 5), (x, n) -> x.forgive(n));
    }

    private static void turn() {
        due.by("Promise 32, NoSuchElementException if there is none such");
        PayOrders x = made();
        // a and b are LIVE at p; e is at its total, f is stopped
        int[][] none = {{0, 2}, {0, 3}, {0, -1}, {0, LEAST}, {0, MOST}, {1, 2}, {2, 2}, {3, 0}, {-1, 0}, {LEAST, 0},
            {MOST, 0}, {3, -1}};
        x.about(99);
        for (int[] n : none) {
            due.noTurn(x, n[0], n[1]);
        }
        due.is("turn(0, 0)", x.turn(0, 0), 0);
        due.is("turn(0, 1)", x.turn(0, 1), 1);
        due.is("turn(1, 0)", x.turn(1, 0), 0);
        due.is("turn(1, 1)", x.turn(1, 1), 2);
        due.is("turn(2, 1)", x.turn(2, 1), 3);
        due.is("trouble(), of which turn tells no number", x.trouble(), 1);
        due.by("Promise 32, by RANKS, then by numbers");
        PayOrders y = Due.made("desk keep 0 part 0 share even;payer p weeks 1"
                + ";order a rank 9 keep 0 total 0 sum 1 at p;order b rank 1 keep 0 total 0 sum 1 at p"
                + ";order c rank 9 keep 0 total 0 sum 1 at p;order d rank 1 keep 0 total 0 sum 1 at p"
                + ";order e rank 8 keep 0 total 0 sum 1 at p;order f rank 2 keep 0 total 0 sum 1 at p");
        int[] turns = {1, 3, 5, 4, 0, 2};
        for (int i = 0; i < 6; i++) {
            due.is("turn(0, " + i + ")", y.turn(0, i), turns[i]);
        }
        due.noTurn(y, 0, 6);
        due.noTurn(y, 1, 0);
        for (int o = 0; o < 6; o++) {
            y.stop(o, true);
        }
        due.by("Promise 32, LIVE there");
        due.noTurn(y, 0, 0);
        y.stop(2, false);
        due.is("turn(0, 0)", y.turn(0, 0), 2);
        y.at(2, 6);
        due.noTurn(y, 0, 0);
    }

    /** Every call that may be refused but desk, all its numbers this one. */
    private static int call(PayOrders x, int which, int n) {
        switch (which) {
            case 0: return x.about(n);
            case 1: return x.order(n, n);
            case 2: return x.payer(n, n);
            case 3: return x.table(n, n, n);
            case 4: return x.row(n, n, n);
            case 5: return x.floor(n, n);
            case 6: return x.ownFloor(n, n, n);
            case 7: return x.past(n, n);
            case 8: return x.pastOf(n, n, n);
            case 9: return x.would(n, n, n, n);
            case 10: return x.left(n, n);
            case 11: return x.ranked(n, n, n);
            case 12: return x.enough(n, n);
            case 13: return x.first(n, n);
            case 14: return x.done(n, n);
            case 15: return x.ahead(n, n, n, n);
            case 16: return x.steady(n);
            case 17: return x.weeks(n);
            case 18: return x.pay(n, n);
            case 19: return x.stop(n, n > 0);
            case 20: return x.rank(n, n);
            case 21: return x.raise(n, n);
            case 22: return x.total(n, n);
            case 23: return x.at(n, n);
            case 24: return x.back(n, n);
            default: return x.forgive(n);
        }
    }

    private static void noDesk() {
        due.by("Term IV, 1 there is none such (no DESK), ahead of all others");
        for (int n : to(0, 1, -1, 9, LEAST, MOST)) {
            PayOrders x = new PayOrders();
            for (int which = 0; which < 26; which++) {
                due.refused(x, "call " + which + " of " + n, call(x, which, n), 1);
                x.desk(1);
                due.is("trouble()", x.trouble(), 2);
            }
            due.noTurn(x, n, n);
            due.is("size()", x.size(), 0);
            due.is("fault()", x.fault(), 0);
        }
    }

    private static void nothingThere() {
        due.by("Term IV, 1 there is none such (no TABLE, PAYER, ORDER, PAY)");
        String text = "desk keep 5 part 0 share even;payer p weeks 1";
        int[] one = {1, 3, 4, 6, 7, 8, 9, 12, 13, 14, 15, 19, 20, 21, 22, 23, 24, 25};
        for (int which : one) {
            PayOrders x = Due.made(text);
            due.refused(x, "call " + which + " of 0", call(x, which, 0), 1);
        }
        PayOrders x = Due.made(text);
        int[] about = {5, 0, 1, 0, 1, 0, 0, 0, 0, 0, 0, 0};
        for (int what = 0; what < 12; what++) {
            due.granted(x, "about(" + what + ")", x.about(what), about[what]);
        }
        due.granted(x, "payer(0, 4)", x.payer(0, 4), 0);
        due.refused(x, "payer(1, 0)", x.payer(1, 0), 1);
        due.granted(x, "left(0, 9999)", x.left(0, 9999), 9999);
        due.granted(x, "ranked(0, 9999, 9)", x.ranked(0, 9999, 9), 0);
        due.granted(x, "steady(20)", x.steady(20), 0);
        due.granted(x, "weeks(60)", x.weeks(60), 0);
        due.granted(x, "pay(0, 9999)", x.pay(0, 9999), 9999);
        due.granted(x, "past(0, 3)", x.past(0, 3), 9999);
        due.refused(x, "pastOf(0, 0, 0)", x.pastOf(0, 0, 0), 1);
        due.noTurn(x, 0, 0);
    }

    private static void troubleStays() {
        due.by("Promise 34, TROUBLE of the latest call that may be refused");
        for (int trouble : to(0, 1, 2, 4, 5)) {
            PayOrders x = made();
            switch (trouble) {
                case 0: x.about(0); break;
                case 1: x.about(12); break;
                case 2: x.weeks(0); break;
                case 4: x.desk(20); break;
                default: x.stop(0, false); break;
            }
            due.is("trouble()", x.trouble(), trouble);
            for (int i = 0; i < 26; i++) {
                x.feed(i, i, i, i, i);
                due.is("trouble() behind feed", x.trouble(), trouble);
            }
            x.size();
            x.fault();
            x.where();
            due.is("turn(0, 0)", x.turn(0, 0), 0);
            due.noTurn(x, 9, 9);
            due.is("trouble() behind those that may not be", x.trouble(), trouble);
            due.is("trouble() again", x.trouble(), trouble);
            x.about(0);
            due.is("trouble() behind one that wasn't refused", x.trouble(), 0);
        }
    }
}
