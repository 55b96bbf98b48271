/** The boundary cases of weeks and pays: term II, promises 6 to 14, 23 and 24. */
public final class EdgePayTest {
    private static final Due due = new Due();

    public static void main(String[] args) {
        rest();
        live();
        owedNeverAboveRest();
        weeksPass();
        netFromNoughtToMost();
        floors();
        ownFloors();
        tablesOfAll();
        tablesOfSteps();
        partsOfWhatIsLeft();
        wantsRestAtMost();
        rankByRank();
        poolAboveAFloor();
        poolForAll();
        sharedEvenly();
        sharedByParts();
        fromFloorToFloor();
        noLessThanFloor();
        owedBehindAPay();
        theLog();
        whatTheLogTells();
        whatTheLogTellsOfOrders();
        whatWasCounted();
        due.end("EdgePayTest");
    }

    private static String desk(int keep, int part, String share) {
        return "desk keep " + keep + " part " + part + " share " + share + ";payer p weeks 1;payer q weeks 4";
    }

    private static String order(char name, int rank, int keep, int total, String kind) {
        return ";order " + name + " rank " + rank + " keep " + keep + " total " + total + " " + kind + " at all";
    }

    /** What each ORDER takes of a NET by the first PAYER, all weeks' sums due once. */
    private static void takes(PayOrders x, int net, int... want) {
        for (int o = 0; o < want.length; o++) {
            due.is("of " + net + " " + o + " takes", x.would(0, net, o, 1), want[o]);
        }
    }

    private static void rest() {
        due.by("Term II, REST: TOTAL less what it TOOK; 999,999 without end");
        PayOrders x = Due.made(desk(0, 0, "even") + order('a', 1, 0, 25, "sum 10") + order('b', 1, 0, 0, "sum 10")
                + order('c', 1, 0, 99_999, "sum 10"));
        due.is("REST", x.order(0, 8), 25);
        due.is("REST without end", x.order(1, 8), 999_999);
        due.is("the greatest REST", x.order(2, 8), 99_999);
        x.weeks(1);
        due.is("pay", x.pay(0, 30), 0);
        due.is("REST", x.order(0, 8), 15);
        due.is("REST without end", x.order(1, 8), 999_999);
        due.is("the greatest REST", x.order(2, 8), 99_989);
        x.weeks(2);
        due.is("pay", x.pay(0, 55), 0);
        due.is("TOOK its TOTAL", x.order(0, 6), 25);
        due.is("REST", x.order(0, 8), 0);
        due.is("REST without end", x.order(1, 8), 999_999);
    }

    private static void live() {
        due.by("Term II, LIVE: not STOPPED, REST above 0");
        PayOrders x = Due.made(desk(0, 0, "even") + order('a', 1, 0, 2, "sum 1"));
        x.weeks(1);
        x.pay(0, 1);
        due.is("REST 1", x.order(0, 8), 1);
        due.is("LIVE with REST 1", x.order(0, 9), 1);
        due.is("about(11)", x.about(11), 1);
        due.is("payer(1, 4)", x.payer(1, 4), 1);
        x.stop(0, true);
        due.is("LIVE if STOPPED", x.order(0, 9), 0);
        due.is("STOPPED", x.order(0, 10), 1);
        due.is("about(11)", x.about(11), 0);
        due.is("payer(1, 4)", x.payer(1, 4), 0);
        x.stop(0, false);
        due.is("LIVE if not any more", x.order(0, 9), 1);
        x.weeks(1);
        x.pay(0, 1);
        due.is("LIVE with REST 0", x.order(0, 9), 0);
        due.is("about(11)", x.about(11), 0);
        due.is("payer(0, 4)", x.payer(0, 4), 0);
        x.stop(0, true);
        x.stop(0, false);
        due.is("LIVE with REST 0 yet", x.order(0, 9), 0);
    }

    private static void owedNeverAboveRest() {
        due.by("Term II, OWED, never above REST");
        PayOrders x = Due.made("desk keep 100 part 0 share even;table t all from 0 take 99;payer p weeks 1"
                + order('a', 1, 0, 100, "sum 30") + order('b', 1, 0, 10, "table t") + order('c', 1, 200, 7, "part 50"));
        int[] owed = {30, 60, 90, 100, 100};
        for (int i = 0; i < owed.length; i++) {
            x.weeks(1);
            due.is("OWED of a sum behind WEEK " + (i + 1), x.order(0, 7), owed[i]);
        }
        for (int i = 0; i < 3; i++) {
            x.pay(0, 100);
            due.is("OWED of a table behind PAY " + (i + 1), x.order(1, 7), 10);
        }
        int[] part = {1, 6, 7, 7};
        int[] nets = {102, 110, 120, 199};
        x.stop(0, true);
        x.stop(1, true);
        for (int i = 0; i < 4; i++) {
            x.pay(0, nets[i]);
            due.is("OWED of a part behind NET " + nets[i], x.order(2, 7), part[i]);
        }
    }

    private static void weeksPass() {
        due.by("Term II, A WEEK passes: OWED of each LIVE sum is more by its sum (REST at most)");
        PayOrders x = Due.made("desk keep 0 part 0 share even;table t all from 0 take 9;payer p weeks 1"
                + order('a', 1, 0, 0, "sum 999") + order('b', 1, 0, 0, "part 99") + order('c', 1, 0, 0, "table t")
                + order('d', 1, 0, 3, "sum 3"));
        x.at(0, 2);
        due.is("at none there is, and of others nothing", x.weeks(1), 999 + 3);
        due.is("REST at most", x.weeks(1), 2 * 999 + 3);
        for (int i = 0; i < 16; i++) {
            x.weeks(60);
        }
        x.weeks(38);
        due.is("1,000 WEEKS", x.order(0, 7), 999_000);
        due.is("1,001 WEEKS", x.weeks(1), 999_999 + 3);
        due.is("999,999 without end", x.weeks(1), 999_999 + 3);
        x.forgive(0);
        due.is("WEEKS that passed", x.about(6), 1002);
        x.stop(0, true);
        due.is("none of a STOPPED one", x.weeks(60), 3);
        x.stop(1, true);
        x.stop(2, true);
        x.pay(0, 9999);
        due.is("REST 0", x.order(3, 8), 0);
        due.is("none of one at its TOTAL", x.order(3, 7) + x.weeks(60), 0);
        due.by("Promise 23, n (1 .. 60) WEEKS pass: OWED of all");
        x.stop(0, false);
        due.is("weeks(1)", x.weeks(1), 999);
        due.is("weeks(60)", x.weeks(60), 61 * 999);
        x.stop(0, true);
        due.is("of STOPPED ones, too", x.weeks(1), 61 * 999);
        due.is("about(10)", x.about(10), 61 * 999);
        due.is("about(6)", x.about(6), 1002 + 120 + 62);
    }

    private static void netFromNoughtToMost() {
        due.by("Promise 24, a PAY of NET (0 .. 9,999): what is LEFT");
        PayOrders x = Due.made(desk(0, 0, "even") + order('a', 1, 0, 0, "sum 999"));
        due.is("of nothing, nothing wanted", x.pay(0, 0), 0);
        due.is("of all, nothing wanted", x.pay(0, 9999), 9999);
        x.weeks(20);
        due.is("of nothing", x.pay(0, 0), 0);
        due.is("TOOK of nothing", x.order(0, 6), 0);
        due.is("of 1", x.pay(0, 1), 0);
        due.is("of all", x.pay(0, 9999), 0);
        due.is("of all, by the last", x.pay(1, 9999), 10_000 + 9999 - 20 * 999);
        due.is("TOOK", x.order(0, 6), 20 * 999);
        due.is("PAYS", x.about(7), 6);
    }

    private static void floors() {
        due.by("Promise 11, FLOOR: the greater one of KEEP times WEEKS and PART hundredths of NET (the greater whole)");
        PayOrders x = Due.made(desk(50, 25, "even"));
        int[][] of = {{0, 0, 50}, {0, 196, 50}, {0, 197, 50}, {0, 200, 50}, {0, 201, 51}, {0, 204, 51}, {0, 205, 52},
            {1, 0, 200}, {1, 800, 200}, {1, 801, 201}, {1, 804, 201}, {1, 805, 202}, {0, 9999, 2500}};
        for (int[] f : of) {
            due.is("floor(" + f[0] + ", " + f[1] + ")", x.floor(f[0], f[1]), f[2]);
        }
        PayOrders y = Due.made(desk(0, 1, "even"));
        int[][] ofOne = {{0, 0}, {1, 1}, {99, 1}, {100, 1}, {101, 2}, {200, 2}, {9900, 99}, {9901, 100}, {9999, 100}};
        for (int[] f : ofOne) {
            due.is("PART 1, floor(1, " + f[0] + ")", y.floor(1, f[0]), f[1]);
        }
        PayOrders z = Due.made(desk(999, 99, "even"));
        int[][] ofMost = {{0, 0, 999}, {1, 0, 3996}, {0, 1009, 999}, {0, 1010, 1000}, {1, 4036, 3996}, {1, 4037, 3997},
            {1, 9999, 9900}};
        for (int[] f : ofMost) {
            due.is("PART 99, floor(" + f[0] + ", " + f[1] + ")", z.floor(f[0], f[1]), f[2]);
        }
        PayOrders w = Due.made(desk(0, 0, "even"));
        due.is("neither", w.floor(1, 9999), 0);
    }

    private static void ownFloors() {
        due.by("Promise 12, OWN FLOOR: the greater one of FLOOR and its KEEP times WEEKS");
        PayOrders x = Due.made(desk(50, 0, "even") + order('a', 1, 49, 0, "sum 1") + order('b', 1, 50, 0, "sum 1")
                + order('c', 1, 51, 0, "sum 1") + order('d', 1, 0, 0, "sum 1") + order('e', 1, 999, 0, "sum 1"));
        int[] ofP = {50, 50, 51, 50, 999};
        int[] ofQ = {200, 200, 204, 200, 3996};
        for (int o = 0; o < 5; o++) {
            due.is("ownFloor(" + o + ", 0, 0)", x.ownFloor(o, 0, 0), ofP[o]);
            due.is("ownFloor(" + o + ", 1, 9999)", x.ownFloor(o, 1, 9999), ofQ[o]);
        }
        PayOrders y = Due.made(desk(0, 50, "even") + order('a', 1, 100, 0, "sum 1"));
        int[][] of = {{199, 100}, {200, 100}, {201, 101}, {202, 101}, {203, 102}};
        for (int[] f : of) {
            due.is("ownFloor(0, 0, " + f[0] + ") by PART", y.ownFloor(0, 0, f[0]), f[1]);
        }
        y.at(0, 4);
        due.is("at that PAYER or not", y.ownFloor(0, 1, 0), 400);
        y.stop(0, true);
        due.is("STOPPED, too", y.ownFloor(0, 1, 0), 400);
    }

    private static void tablesOfAll() {
        due.by("Promise 9, all: TAKE hundredths (cut) of NET by the last ROW with a FROM times WEEKS no greater than NET");
        PayOrders x = Due.made("desk keep 0 part 0 share even;payer p weeks 1;table a all from 100 take 10 from 101 take 99"
                + " from 2500 take 0;table b all from 0 take 33;table c all from 9999 take 99");
        int[][] of = {
            {0, 0, 1, 0}, {0, 99, 1, 0}, {0, 100, 1, 10}, {0, 101, 1, 99}, {0, 102, 1, 100}, {0, 2499, 1, 2474},
            {0, 2500, 1, 0}, {0, 9999, 1, 0},
            {0, 199, 2, 0}, {0, 200, 2, 20}, {0, 201, 2, 20}, {0, 202, 2, 199}, {0, 4999, 2, 4949}, {0, 5000, 2, 0},
            {0, 299, 3, 0}, {0, 300, 3, 30}, {0, 302, 3, 30}, {0, 303, 3, 299}, {0, 7499, 3, 7424}, {0, 7500, 3, 0},
            {0, 399, 4, 0}, {0, 400, 4, 40}, {0, 403, 4, 40}, {0, 404, 4, 399}, {0, 9999, 4, 9899},
            {1, 0, 1, 0}, {1, 3, 1, 0}, {1, 4, 1, 1}, {1, 9999, 4, 3299},
            {2, 9998, 1, 0}, {2, 9999, 1, 9899}, {2, 9999, 2, 0}, {2, 9999, 4, 0},
        };
        tells(x, of);
    }

    private static void tablesOfSteps() {
        due.by("Promise 9, steps: for each ROW that part which is above FROM, but not above the next FROM, each cut");
        PayOrders x = Due.made("desk keep 0 part 0 share even;payer p weeks 1;table a steps from 10 take 50 from 20 take 99"
                + " from 30 take 0;table b steps from 0 take 50 from 1 take 50 from 2 take 50;table c steps from 9998 take 99");
        int[][] of = {
            {0, 0, 1, 0}, {0, 10, 1, 0}, {0, 11, 1, 0}, {0, 12, 1, 1}, {0, 19, 1, 4}, {0, 20, 1, 5}, {0, 21, 1, 5},
            {0, 22, 1, 6}, {0, 30, 1, 14}, {0, 31, 1, 14}, {0, 9999, 1, 14},
            {0, 40, 4, 0}, {0, 41, 4, 0}, {0, 42, 4, 1}, {0, 80, 4, 20}, {0, 81, 4, 20}, {0, 82, 4, 21}, {0, 120, 4, 59},
            {0, 121, 4, 59}, {0, 20, 2, 0}, {0, 22, 2, 1}, {0, 30, 3, 0}, {0, 32, 3, 1},
            {1, 0, 1, 0}, {1, 1, 1, 0}, {1, 2, 1, 0}, {1, 3, 1, 0}, {1, 4, 1, 1}, {1, 3, 2, 1}, {1, 4, 2, 2},
            {2, 9998, 1, 0}, {2, 9999, 1, 0}, {2, 9999, 2, 0},
        };
        tells(x, of);
        due.by("Promise 9, steps: a last ROW has no next");
        due.is("table(0, 9999, 1)", Due.made("desk keep 0 part 0 share even;payer p weeks 1;table a steps from 0 take 99")
                .table(0, 9999, 1), 9899);
    }

    private static void tells(PayOrders x, int[][] of) {
        for (int[] t : of) {
            due.is("table(" + t[0] + ", " + t[1] + ", " + t[2] + ")", x.table(t[0], t[1], t[2]), t[3]);
        }
    }

    private static void partsOfWhatIsLeft() {
        due.by("Term II, a part its hundredths (cut) of LEFT, as the RANK begins, less FLOOR (0 at least)");
        PayOrders x = Due.made(desk(10, 0, "even") + order('a', 1, 0, 0, "part 99") + order('b', 2, 0, 0, "part 1"));
        int[][] of = {{0, 0}, {9, 0}, {10, 0}, {11, 0}, {12, 1}, {13, 2}, {109, 98}, {110, 99}, {111, 99}, {9999, 9889}};
        for (int[] w : of) {
            due.is("part 99 of " + w[0], x.would(0, w[0], 0, 0), w[1]);
        }
        // 9889 of 9989 are gone then, and 100 are left above the FLOOR
        due.is("part 1 of what is left", x.would(0, 9999, 1, 0), 1);
        due.is("part 1 of less", x.would(0, 9898, 1, 0), 0);
        due.is("of four WEEKS, at the FLOOR", x.would(1, 40, 0, 0), 0);
        due.is("of four WEEKS, above it", x.would(1, 42, 0, 0), 1);
        due.by("Term II, as the RANK begins: all parts of a RANK are of the same");
        PayOrders y = Due.made(desk(0, 0, "even") + order('a', 3, 0, 0, "part 50") + order('b', 3, 0, 0, "part 30")
                + order('c', 4, 0, 0, "part 50"));
        int[] wants = {50, 30, 10};
        for (int o = 0; o < 3; o++) {
            due.is("of 100 " + o + " wants", y.would(0, 100, o, 0), wants[o]);
        }
        due.by("Term II, less FLOOR, not an OWN FLOOR");
        PayOrders z = Due.made(desk(10, 0, "even") + order('a', 1, 60, 0, "part 50"));
        due.is("of 70 it wants", z.would(0, 70, 0, 0), 30);
        due.is("of 70 it takes", z.would(0, 70, 0, 1), 10);
        due.is("of 60 it wants", z.would(0, 60, 0, 0), 25);
        due.is("of 60 it takes", z.would(0, 60, 0, 1), 0);
    }

    private static void wantsRestAtMost() {
        due.by("Term II, WANT: each REST at most");
        PayOrders x = Due.made("desk keep 0 part 0 share even;table t all from 0 take 10;payer p weeks 1"
                + order('a', 1, 0, 20, "table t") + order('b', 1, 0, 20, "part 10") + order('c', 1, 0, 20, "sum 19"));
        int[][] of = {{199, 19}, {200, 20}, {201, 20}, {210, 20}, {9999, 20}};
        for (int[] w : of) {
            due.is("a table of " + w[0], x.would(0, w[0], 0, 0), w[1]);
            due.is("a part of " + w[0], x.would(0, w[0], 1, 0), w[1]);
        }
        x.weeks(1);
        due.is("a sum, OWED", x.would(0, 200, 2, 0), 19);
        x.weeks(1);
        due.is("a sum, REST", x.would(0, 200, 2, 0), 20);
        due.is("all that they want", x.pay(0, 200), 140);
        due.is("LIVE ORDERS", x.about(11), 0);
        due.is("nothing is wanted", x.pay(0, 200), 200);
        due.by("Term II, REST at most, with OWED");
        PayOrders y = Due.made("desk keep 100 part 0 share even;table t all from 0 take 10;payer p weeks 1"
                + order('a', 1, 0, 24, "table t"));
        int[] wants = {10, 20, 24, 24};
        for (int want : wants) {
            due.is("of 100 it wants", y.would(0, 100, 0, 0), want);
            due.is("pay(0, 100)", y.pay(0, 100), 100);
            due.is("OWED", y.order(0, 7), want);
        }
        due.is("pay(0, 123)", y.pay(0, 123), 100);
        due.is("OWED, REST", y.order(0, 7), 1);
        due.is("pay(0, 123) again", y.pay(0, 123), 122);
        due.is("LIVE", y.order(0, 9), 0);
    }

    private static void rankByRank() {
        due.by("Term II, RANK by RANK, the least first");
        PayOrders x = Due.made(desk(0, 0, "even") + order('a', 9, 0, 0, "sum 10") + order('b', 1, 0, 0, "sum 10")
                + order('c', 5, 0, 0, "sum 10"));
        x.weeks(1);
        takes(x, 1, 0, 1, 0);
        takes(x, 10, 0, 10, 0);
        takes(x, 11, 0, 10, 1);
        takes(x, 20, 0, 10, 10);
        takes(x, 21, 1, 10, 10);
        takes(x, 30, 10, 10, 10);
        takes(x, 31, 10, 10, 10);
        due.by("Term II, ORDERS that are LIVE and at that PAYER");
        x.stop(1, true);
        takes(x, 11, 1, 0, 10);
        x.at(2, 2);
        takes(x, 11, 10, 0, 0);
        x.at(0, 2);
        takes(x, 11, 0, 0, 0);
        due.is("of 11 by the other", x.would(1, 11, 2, 1), 10);
    }

    private static void poolAboveAFloor() {
        due.by("Term II, what is LEFT above it (if it is) is a POOL");
        PayOrders x = Due.made(desk(40, 0, "even") + order('a', 1, 50, 0, "sum 10"));
        x.weeks(1);
        takes(x, 0, 0);
        takes(x, 39, 0);
        takes(x, 40, 0);
        takes(x, 49, 0);
        takes(x, 50, 0);
        takes(x, 51, 1);
        takes(x, 59, 9);
        takes(x, 60, 10);
        takes(x, 61, 10);
        due.is("of four WEEKS, at it", x.would(1, 200, 0, 1), 0);
        due.is("of four WEEKS, above it", x.would(1, 201, 0, 1), 1);
        due.by("Term II, what is LEFT above it, behind lesser RANKS");
        PayOrders y = Due.made(desk(0, 0, "even") + order('a', 1, 0, 0, "sum 30") + order('b', 2, 50, 0, "sum 10"));
        y.weeks(1);
        takes(y, 79, 30, 0);
        takes(y, 80, 30, 0);
        takes(y, 81, 30, 1);
        takes(y, 90, 30, 10);
    }

    private static void poolForAll() {
        due.by("Term II, if it is no less than all that together, each has it");
        for (String share : new String[] {"even", "parts"}) {
            PayOrders x = Due.made(desk(0, 0, share) + order('a', 1, 0, 0, "sum 1") + order('b', 1, 0, 0, "sum 20")
                    + order('c', 1, 0, 0, "sum 9"));
            x.weeks(1);
            takes(x, 30, 1, 20, 9);
            takes(x, 31, 1, 20, 9);
            due.is("left of 30 by " + share, x.left(0, 30), 0);
            due.is("left of 31 by " + share, x.left(0, 31), 1);
            due.is("left of 29 by " + share, x.left(0, 29), 0);
        }
    }

    private static void sharedEvenly() {
        due.by("Term II, by SHARE even: each as much as the POOL by how many they are (cut), no more than it wants");
        PayOrders x = Due.made(desk(0, 0, "even") + order('a', 1, 0, 0, "sum 1") + order('b', 1, 0, 0, "sum 20")
                + order('c', 1, 0, 0, "sum 9"));
        x.weeks(1);
        takes(x, 29, 1, 19, 9);
        takes(x, 20, 1, 10, 9);
        takes(x, 19, 1, 9, 9);
        takes(x, 18, 1, 9, 8);
        takes(x, 9, 1, 4, 4);
        takes(x, 8, 1, 4, 3);
        takes(x, 6, 1, 3, 2);
        due.by("Term II, even: as long as it is no less than they are; then 1 each, by numbers, as far as it goes");
        takes(x, 4, 1, 2, 1);
        takes(x, 3, 1, 1, 1);
        takes(x, 2, 1, 1, 0);
        takes(x, 1, 1, 0, 0);
        takes(x, 0, 0, 0, 0);
        PayOrders y = Due.made(desk(0, 0, "even") + order('a', 1, 0, 0, "sum 9") + order('b', 1, 0, 0, "sum 1")
                + order('c', 1, 0, 0, "sum 9") + order('d', 1, 0, 0, "sum 2") + order('e', 1, 0, 0, "sum 9")
                + order('f', 1, 0, 0, "sum 3"));
        y.weeks(1);
        takes(y, 5, 1, 1, 1, 1, 1, 0);
        takes(y, 6, 1, 1, 1, 1, 1, 1);
        takes(y, 7, 2, 1, 1, 1, 1, 1);
        takes(y, 11, 2, 1, 2, 2, 2, 2);
        takes(y, 14, 3, 1, 3, 2, 3, 2);
        takes(y, 15, 3, 1, 3, 2, 3, 3);
        takes(y, 17, 4, 1, 4, 2, 3, 3);
        takes(y, 32, 9, 1, 9, 2, 8, 3);
        due.by("Term II, even: that again with what there is still, as much as there may be");
        PayOrders z = Due.made(desk(0, 0, "even") + order('a', 1, 0, 0, "sum 1") + order('b', 1, 0, 0, "sum 999"));
        z.weeks(20);
        takes(z, 9999, 20, 9979);
        takes(z, 41, 20, 21);
        takes(z, 40, 20, 20);
        takes(z, 39, 20, 19);
    }

    private static void sharedByParts() {
        due.by("Term II, by SHARE parts: POOL times what it wants yet by what all of these want yet (cut), then 1 each");
        PayOrders x = Due.made(desk(0, 0, "parts") + order('a', 1, 0, 0, "sum 1") + order('b', 1, 0, 0, "sum 20")
                + order('c', 1, 0, 0, "sum 9"));
        x.weeks(1);
        // of 30: 29 are 0.97, 19.3, 8.7; 15 are 0.5, 10, 4.5; 10 are 0.3, 6.7, 3; 3 are 0.1, 2, 0.9
        takes(x, 29, 1, 20, 8);
        takes(x, 15, 1, 10, 4);
        takes(x, 10, 1, 6, 3);
        takes(x, 3, 1, 2, 0);
        takes(x, 2, 1, 1, 0);
        takes(x, 1, 1, 0, 0);
        takes(x, 0, 0, 0, 0);
        PayOrders y = Due.made(desk(0, 0, "parts") + order('a', 1, 0, 0, "sum 10") + order('b', 1, 0, 0, "sum 10"));
        y.weeks(1);
        takes(y, 19, 10, 9);
        takes(y, 18, 9, 9);
        due.by("Term II, by SHARE parts, of as much as may be wanted");
        PayOrders z = Due.made(desk(0, 0, "parts") + order('a', 1, 0, 0, "sum 999") + order('b', 1, 0, 0, "sum 999")
                + order('c', 1, 0, 0, "sum 999") + order('d', 1, 0, 0, "sum 999") + order('e', 1, 0, 0, "sum 999")
                + order('f', 1, 0, 0, "sum 999"));
        for (int i = 0; i < 17; i++) {
            z.weeks(60);
        }
        due.is("OWED of all", z.about(10), 6 * 999_999);
        takes(z, 9999, 1667, 1667, 1667, 1666, 1666, 1666);
    }

    private static void fromFloorToFloor() {
        due.by("Term II, for each number that is OWN FLOOR of one that WANTS more than 0, the greatest first");
        String orders = order('a', 1, 20, 0, "sum 10") + order('b', 1, 0, 0, "sum 10") + order('c', 1, 20, 0, "sum 10")
                + order('d', 1, 30, 0, "sum 10");
        PayOrders x = Due.made(desk(10, 0, "even") + orders);
        x.weeks(1);
        takes(x, 10, 0, 0, 0, 0);
        takes(x, 11, 0, 1, 0, 0);
        takes(x, 20, 0, 10, 0, 0);
        takes(x, 21, 1, 10, 0, 0);
        takes(x, 23, 1, 10, 1, 0);
        takes(x, 30, 4, 10, 3, 0);
        takes(x, 31, 5, 10, 3, 0);
        takes(x, 34, 5, 10, 4, 1);
        PayOrders y = Due.made(desk(10, 0, "parts") + orders);
        y.weeks(1);
        takes(y, 30, 4, 10, 3, 0);
        takes(y, 34, 5, 10, 4, 1);
        takes(y, 69, 10, 10, 10, 9);
        takes(y, 70, 10, 10, 10, 10);
        due.by("Term II, for those with OWN FLOORS no greater and something they want yet");
        x.forgive(3);
        // no one above 20 wants now, so nothing is shared above 30 first
        takes(x, 31, 4, 10, 3, 0);
        x.forgive(0);
        x.forgive(2);
        takes(x, 31, 0, 10, 0, 0);
        takes(x, 19, 0, 9, 0, 0);
        PayOrders z = Due.made(desk(48, 0, "even") + order('a', 1, 0, 0, "sum 1") + order('b', 1, 0, 0, "sum 1")
                + order('c', 1, 0, 0, "sum 10") + order('d', 1, 50, 0, "sum 5"));
        z.weeks(1);
        // above 50: 4, 1 each; above 48: 2, and c alone wants yet
        takes(z, 54, 1, 1, 3, 1);
        takes(z, 55, 1, 1, 4, 1);
    }

    private static void noLessThanFloor() {
        due.by("Term II, no PAY leaves less than FLOOR, if NET isn't less");
        for (int net = 0; net < 10_000; net += net < 400 ? 1 : 61) {
            PayOrders x = Due.made(desk(30, 20, net % 2 == 0 ? "even" : "parts") + order('a', 1, 0, 0, "sum 999")
                    + order('b', 2, 90, 0, "part 99") + order('c', 1, 31, 0, "sum 999"));
            x.weeks(20);
            for (int p = 0; p < 2; p++) {
                int floor = x.floor(p, net);
                due.is("left of " + net + " by " + p, x.pay(p, net), Math.min(floor, net));
            }
        }
    }

    private static void owedBehindAPay() {
        due.by("Term II, behind it OWED of a sum is less by what it TOOK; of another one it is WANT less that");
        PayOrders x = Due.made("desk keep 0 part 0 share even;table t all from 0 take 50;payer p weeks 1"
                + order('a', 1, 99, 0, "table t") + order('b', 1, 99, 0, "part 50") + order('c', 1, 99, 0, "sum 50"));
        x.weeks(1);
        due.is("none is taken", x.pay(0, 99), 99);
        int[] owed = {49, 49, 50};
        for (int o = 0; o < 3; o++) {
            due.is("OWED of " + o, x.order(o, 7), owed[o]);
        }
        due.is("pay(0, 102)", x.pay(0, 102), 99);
        int[] then = {49 + 51 - 1, 49 + 51 - 1, 49};
        for (int o = 0; o < 3; o++) {
            due.is("OWED of " + o, x.order(o, 7), then[o]);
        }
        due.is("pay(0, 0)", x.pay(0, 0), 0);
        for (int o = 0; o < 3; o++) {
            due.is("OWED of " + o + " behind nothing", x.order(o, 7), then[o]);
        }
        x.stop(1, true);
        x.pay(0, 0);
        due.is("OWED of a STOPPED one stays", x.order(1, 7), 99);
        due.is("pay(0, 9999)", x.pay(0, 9999), 9999 - 99 - 4999 - 49);
        due.is("OWED, all taken", x.order(0, 7), 0);
        due.is("OWED, all taken", x.order(2, 7), 0);
    }

    private static void theLog() {
        due.by("Promise 13, THE LOG: the latest 12 PAYS");
        PayOrders x = Due.made(desk(0, 0, "even") + order('a', 1, 0, 0, "sum 1"));
        due.refused(x, "past(0, 0) of none", x.past(0, 0), 1);
        for (int i = 1; i <= 26; i++) {
            due.refused(x, "past(" + Math.min(i - 1, 12) + ", 1)", x.past(Math.min(i - 1, 12), 1), 1);
            x.weeks(1);
            x.pay(i % 2, 100 + i);
            due.granted(x, "past(0, 1)", x.past(0, 1), 100 + i);
            int last = Math.min(i, 12) - 1;
            due.granted(x, "past(" + last + ", 1)", x.past(last, 1), 100 + i - last);
            due.is("past(" + last + ", 4)", x.past(last, 4), i - last);
        }
        for (int i = 0; i < 12; i++) {
            due.is("past(" + i + ", 0)", x.past(i, 0), i % 2);
            due.is("past(" + i + ", 1)", x.past(i, 1), 126 - i);
            due.is("past(" + i + ", 3)", x.past(i, 3), 125 - i);
            due.is("past(" + i + ", 4)", x.past(i, 4), 26 - i);
        }
        due.is("PAYS are counted on", x.about(7), 26);
    }

    private static void whatTheLogTells() {
        due.by("Promise 13, 2 FLOOR, 3 LEFT at last, 4 WEEK in which");
        PayOrders y = Due.made(desk(30, 50, "even") + order('a', 1, 0, 0, "sum 99"));
        y.pay(1, 10);
        y.weeks(1);
        y.pay(0, 99);
        y.pay(1, 120);
        int[][] pays = {{1, 120, 120, 120, 1}, {0, 99, 50, 50, 1}, {1, 10, 120, 10, 0}};
        for (int i = 0; i < 3; i++) {
            for (int what = 0; what < 5; what++) {
                due.is("past(" + i + ", " + what + ")", y.past(i, what), pays[i][what]);
            }
        }
    }

    private static void whatTheLogTellsOfOrders() {
        due.by("Promise 14, WANTED (0 if it wasn't LIVE there), TOOK");
        PayOrders z = Due.made(desk(0, 0, "even") + order('a', 1, 0, 9, "sum 9") + order('b', 1, 0, 0, "sum 9")
                + order('c', 1, 0, 0, "sum 9") + order('d', 1, 0, 0, "sum 9"));
        z.weeks(1);
        z.pay(0, 30);
        z.stop(1, true);
        z.at(2, 2);
        z.weeks(1);
        z.pay(0, 4);
        z.pay(0, 5);
        int[][][] of = {{{0, 0}, {0, 0}, {0, 0}, {8, 5}}, {{1, 1}, {0, 0}, {0, 0}, {11, 3}},
            {{9, 8}, {9, 8}, {9, 7}, {9, 7}}};
        for (int i = 0; i < 3; i++) {
            for (int o = 0; o < 4; o++) {
                due.is("pastOf(" + i + ", " + o + ", 0)", z.pastOf(i, o, 0), of[i][o][0]);
                due.is("pastOf(" + i + ", " + o + ", 1)", z.pastOf(i, o, 1), of[i][o][1]);
            }
        }
    }

    private static void whatWasCounted() {
        due.by("Promises 6 to 8, PAYS, NETS, TAKEN");
        PayOrders x = Due.made(desk(10, 0, "even") + order('a', 1, 0, 0, "sum 5"));
        x.pay(0, 0);
        due.is("a PAY of nothing is one", x.about(7), 1);
        due.is("payer(0, 1)", x.payer(0, 1), 1);
        x.weeks(2);
        x.pay(0, 10);
        due.is("PAYS from which it TOOK something", x.order(0, 11), 0);
        x.pay(0, 11);
        due.is("PAYS from which it TOOK something", x.order(0, 11), 1);
        x.pay(1, 9999);
        due.is("PAYS from which it TOOK something", x.order(0, 11), 2);
        x.pay(1, 9999);
        due.is("PAYS from which it TOOK something", x.order(0, 11), 2);
        int[] about = {2, 5, 10 + 11 + 2 * 9999, 10, 0, 1};
        for (int what = 6; what < 12; what++) {
            due.is("about(" + what + ")", x.about(what), about[what - 6]);
        }
        int[][] payer = {{1, 3, 21, 1, 1}, {4, 2, 2 * 9999, 9, 1}};
        for (int p = 0; p < 2; p++) {
            for (int what = 0; what < 5; what++) {
                due.is("payer(" + p + ", " + what + ")", x.payer(p, what), payer[p][what]);
            }
        }
        due.by("Promise 6, all that was TAKEN (what was given back aside)");
        x.back(0, 10);
        due.is("about(9)", x.about(9), 10);
        due.is("payer(1, 3)", x.payer(1, 3), 9);
        due.is("PAYS from which it TOOK something", x.order(0, 11), 2);
        due.by("Promise 6, 8 all NETS, as many as there may be");
        PayOrders y = Due.made(desk(0, 0, "even"));
        for (int i = 0; i < 490; i++) {
            y.pay(i % 2, 9999);
        }
        due.is("about(8)", y.about(8), 490 * 9999);
        due.is("payer(1, 2)", y.payer(1, 2), 245 * 9999);
        due.is("about(7)", y.about(7), 490);
    }
}
