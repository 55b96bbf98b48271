/** The boundary cases of what would be: term III, promises 15 to 22. */
public final class EdgeRunTest {
    private static final Due due = new Due();

    public static void main(String[] args) {
        wouldOfOnesNotLiveThere();
        wouldChangesNothing();
        leftAndRanked();
        enough();
        enoughIsTheLeast();
        first();
        firstOfNone();
        run();
        runByPayers();
        done();
        doneByWeeks();
        ahead();
        steady();
        steadyOfMost();
        due.end("EdgeRunTest");
    }

    private static PayOrders made(String lines) {
        return Due.made("desk keep 0 part 0 share even;payer p weeks 1" + lines);
    }

    private static PayOrders withSum(int sum) {
        return made(";order a rank 1 keep 0 total 0 sum " + sum + " at p");
    }

    private static void wouldOfOnesNotLiveThere() {
        due.by("Promise 15, 0 of both, if it isn't LIVE there, 2 what it is OWED then (as now, if it isn't)");
        PayOrders x = made(";payer q weeks 1;order a rank 1 keep 0 total 0 sum 9 at p;order b rank 2 keep 0 total 9 sum 9 at p"
                + ";order c rank 3 keep 0 total 0 sum 9 at q;order d rank 4 keep 0 total 0 sum 9 at p");
        x.weeks(1);
        x.pay(0, 18);
        x.weeks(1);
        x.stop(0, true);
        int[][] of = {{0, 0, 9}, {0, 0, 0}, {0, 0, 18}, {18, 10, 8}};
        for (int o = 0; o < 4; o++) {
            for (int what = 0; what < 3; what++) {
                due.granted(x, "would(0, 10, " + o + ", " + what + ")", x.would(0, 10, o, what), of[o][what]);
            }
        }
        int[][] none = {{0, 0, 9}, {0, 0, 0}, {18, 0, 18}, {0, 0, 18}};
        for (int o = 0; o < 4; o++) {
            for (int what = 0; what < 3; what++) {
                due.granted(x, "would(1, 0, " + o + ", " + what + ")", x.would(1, 0, o, what), none[o][what]);
            }
        }
        due.is("would(1, 9999, 2, 1)", x.would(1, 9999, 2, 1), 18);
        due.is("would(1, 9999, 2, 2)", x.would(1, 9999, 2, 2), 0);
    }

    private static void wouldChangesNothing() {
        due.by("Term III, WOULD: as a PAY, nothing changing");
        PayOrders x = made(";payer q weeks 2;table t steps from 0 take 9;order a rank 1 keep 0 total 0 sum 9 at all"
                + ";order b rank 2 keep 7 total 99 table t at all;order c rank 2 keep 0 total 0 part 9 at p");
        x.weeks(2);
        x.pay(1, 15);
        int[] before = state(x);
        x.would(0, 9999, 0, 2);
        x.left(0, 100);
        x.ranked(1, 100, 2);
        x.enough(0, 0);
        x.first(1, 1);
        x.done(1, 9999);
        x.ahead(2, 9999, 200, 0);
        x.steady(20);
        int[] behind = state(x);
        for (int i = 0; i < before.length; i++) {
            due.is("what is told " + i, behind[i], before[i]);
        }
        due.is("left", x.left(0, 100), x.pay(0, 100));
    }

    private static int[] state(PayOrders x) {
        int[] all = new int[12 * 4 + 5 * 3 + 6 + 1];
        int at = 0;
        for (int what = 0; what < 12; what++) {
            all[at++] = x.about(what);
            for (int o = 0; o < 3; o++) {
                all[at++] = x.order(o, what);
            }
        }
        for (int what = 0; what < 5; what++) {
            all[at++] = x.payer(0, what);
            all[at++] = x.payer(1, what);
            all[at++] = x.past(0, what);
        }
        for (int o = 0; o < 3; o++) {
            all[at++] = x.pastOf(0, o, 0);
            all[at++] = x.pastOf(0, o, 1);
        }
        all[at++] = x.past(1, 0);
        return all;
    }

    private static void leftAndRanked() {
        due.by("Promises 16 and 17, LEFT at last; TAKEN by a RANK (1 .. 9) together");
        PayOrders x = made(";order a rank 1 keep 0 total 0 sum 10 at p;order b rank 9 keep 0 total 0 sum 10 at p"
                + ";order c rank 9 keep 0 total 0 sum 10 at p");
        due.is("left(0, 0)", x.left(0, 0), 0);
        due.is("left(0, 9999), nothing OWED", x.left(0, 9999), 9999);
        x.weeks(1);
        int[][] of = {{0, 0, 0, 0}, {1, 0, 1, 0}, {10, 0, 10, 0}, {11, 0, 10, 1}, {29, 0, 10, 19}, {30, 0, 10, 20},
            {31, 1, 10, 20}, {9999, 9969, 10, 20}};
        for (int[] r : of) {
            due.granted(x, "left(0, " + r[0] + ")", x.left(0, r[0]), r[1]);
            due.granted(x, "ranked(0, " + r[0] + ", 1)", x.ranked(0, r[0], 1), r[2]);
            due.granted(x, "ranked(0, " + r[0] + ", 9)", x.ranked(0, r[0], 9), r[3]);
            due.granted(x, "ranked(0, " + r[0] + ", 8), a RANK of none", x.ranked(0, r[0], 8), 0);
        }
        x.stop(1, true);
        due.is("ranked(0, 9999, 9), one STOPPED", x.ranked(0, 9999, 9), 10);
        x.stop(2, true);
        due.is("ranked(0, 9999, 9), both STOPPED", x.ranked(0, 9999, 9), 0);
    }

    private static void enough() {
        due.by("Promise 18, the least NET (0 .. 9,999), and wants something; -2 none");
        PayOrders x = withSum(1);
        due.granted(x, "nothing OWED", x.enough(0, 0), -2);
        x.weeks(1);
        due.granted(x, "1 OWED", x.enough(0, 0), 1);
        x.weeks(1);
        due.granted(x, "2 OWED", x.enough(0, 0), 2);
        PayOrders y = withSum(99);
        y.weeks(60);
        y.weeks(41);
        due.is("OWED", y.order(0, 7), 9999);
        due.granted(y, "9,999 OWED", y.enough(0, 0), 9999);
        PayOrders z = withSum(100);
        z.weeks(60);
        z.weeks(40);
        due.granted(z, "10,000 OWED", z.enough(0, 0), -2);
        due.by("Promise 18, NONE: 5 (not LIVE there)");
        x.stop(0, true);
        due.refused(x, "STOPPED", x.enough(0, 0), 5);
        x.stop(0, false);
        due.granted(x, "not any more", x.enough(0, 0), 2);
        x.at(0, 2);
        due.refused(x, "elsewhere", x.enough(0, 0), 5);
        x.at(0, 1);
        x.total(0, 2);
        x.pay(0, 1);
        due.granted(x, "REST 1", x.enough(0, 0), 1);
        x.pay(0, 1);
        due.refused(x, "REST 0", x.enough(0, 0), 5);
        due.by("Promise 18, NONE: 1 ahead of 5");
        due.refused(x, "enough(0, 1)", x.enough(0, 1), 1);
        due.refused(x, "enough(1, 0)", x.enough(1, 0), 1);
    }

    private static void enoughIsTheLeast() {
        due.by("Promise 18, the least NET, more of which may be too little");
        PayOrders x = Due.made("desk keep 90 part 0 share even;payer p weeks 1;table t all from 0 take 1 from 200 take 99"
                + ";order a rank 1 keep 0 total 0 table t at p");
        due.is("enough(0, 0)", x.enough(0, 0), 100);
        due.is("of 200 it wants", x.would(0, 200, 0, 0), 198);
        due.is("of 200 it takes", x.would(0, 200, 0, 1), 110);
        PayOrders y = Due.made("desk keep 0 part 0 share even;payer p weeks 1;table t all from 9999 take 1"
                + ";order a rank 1 keep 0 total 0 table t at p");
        due.is("wants something of 9,999 alone", y.enough(0, 0), 9999);
        PayOrders z = Due.made("desk keep 999 part 99 share even;payer p weeks 4;order a rank 1 keep 0 total 0 sum 99 at p");
        z.weeks(1);
        due.is("99 are above FLOOR of 9,900 at first", z.enough(0, 0), 9900);
        z.raise(0, 1);
        z.weeks(1);
        due.is("100 never are", z.enough(0, 0), -2);
    }

    private static void first() {
        due.by("Promise 19, the least NET (0 .. 9,999) by which an ORDER would TAKE something; -2 none");
        PayOrders x = withSum(1);
        due.granted(x, "nothing OWED", x.first(0, 0), -2);
        x.weeks(1);
        due.granted(x, "above a FLOOR of 0", x.first(0, 0), 1);
        PayOrders y = Due.made("desk keep 999 part 0 share even;payer p weeks 4;table t all from 9999 take 1"
                + ";table u steps from 9900 take 1;payer q weeks 1;order a rank 1 keep 999 total 0 sum 5 at all"
                + ";order b rank 2 keep 0 total 0 table t at q;order c rank 3 keep 0 total 0 table u at q"
                + ";order d rank 9 keep 0 total 0 part 1 at q");
        y.weeks(1);
        due.granted(y, "above KEEP of four WEEKS", y.first(0, 0), 3997);
        due.granted(y, "above KEEP of one", y.first(0, 1), 1000);
        due.granted(y, "9,999", y.first(1, 1), 9999);
        due.granted(y, "of 99 nothing", y.first(2, 1), -2);
        due.granted(y, "1 of 100 above FLOOR and a", y.first(3, 1), 1104);
        for (int i = 0; i < 17; i++) {
            y.weeks(60);
        }
        y.raise(0, 999);
        for (int i = 0; i < 9; i++) {
            y.weeks(1);
        }
        due.granted(y, "none behind one that is OWED so much", y.first(3, 1), -2);
    }

    private static void firstOfNone() {
        due.by("Promise 19, -2 none, of those not LIVE there, too");
        PayOrders x = withSum(5);
        x.weeks(1);
        x.stop(0, true);
        due.granted(x, "STOPPED", x.first(0, 0), -2);
        x.stop(0, false);
        x.at(0, 6);
        due.granted(x, "elsewhere", x.first(0, 0), -2);
        x.at(0, 1);
        due.granted(x, "there", x.first(0, 0), 1);
        x.total(0, 5);
        x.pay(0, 5);
        due.granted(x, "REST 0", x.first(0, 0), -2);
        due.refused(x, "first(0, 1)", x.first(0, 1), 1);
        due.refused(x, "first(1, 0)", x.first(1, 0), 1);
    }

    private static void run() {
        due.by("Term III, RUN: WEEKS 1, 2, .. pass from now on, in each, behind its passing, each PAYER PAYS");
        PayOrders x = withSum(7);
        due.is("what falls due in WEEK 1 is taken in it", x.ahead(0, 9999, 1, 0), 7);
        due.is("and OWED no more", x.ahead(0, 9999, 1, 1), 0);
        due.by("Term III, if its WEEKS divide the number of the WEEK");
        for (int weeks = 1; weeks <= 4; weeks++) {
            PayOrders y = Due.made("desk keep 0 part 0 share even;payer p weeks " + weeks
                    + ";order a rank 1 keep 0 total 0 part 50 at p");
            for (int n = 1; n <= 9; n++) {
                due.is("PAYS of " + n + " WEEKS by a PAYER of " + weeks, y.ahead(0, 2, n, 0), n / weeks);
            }
            due.is("PAYS of 200 WEEKS", y.ahead(0, 2, 200, 0), 200 / weeks);
            due.is("PAYS of 199 WEEKS", y.ahead(0, 2, 199, 0), 199 / weeks);
            y.weeks(3);
            y.pay(0, 2);
            due.is("the number is the RUN's own", y.ahead(0, 2, 4, 0), 4 / weeks);
        }
    }

    private static void runByPayers() {
        due.by("Term III, each PAYER (by numbers)");
        PayOrders x = Due.made("desk keep 0 part 0 share even;payer p weeks 1;payer q weeks 1"
                + ";order a rank 1 keep 0 total 0 sum 10 at all;order b rank 2 keep 0 total 0 sum 10 at q"
                + ";order c rank 2 keep 0 total 0 sum 10 at p");
        // p has nothing but for a, so q has all for b
        due.is("b", x.ahead(1, 10, 1, 0), 10);
        due.is("c", x.ahead(2, 10, 1, 0), 0);
        due.is("a", x.ahead(0, 10, 1, 0), 10);
        due.by("Term III, a PAY of a RUN is one as all are, by an OWN FLOOR, too");
        PayOrders y = made(";order a rank 1 keep 20 total 0 sum 9 at p");
        due.is("at its OWN FLOOR", y.ahead(0, 20, 3, 0), 0);
        due.is("above its OWN FLOOR", y.ahead(0, 21, 3, 0), 3);
        due.by("Term III, all PAYERS with that NET");
        due.is("b of 15", x.ahead(1, 15, 1, 0), 10);
        due.is("c of 15", x.ahead(2, 15, 1, 0), 5);
        due.is("c of 15, OWED", x.ahead(2, 15, 1, 1), 5);
    }

    private static void done() {
        due.by("Promise 20, in which WEEK (1 .. 200) of a RUN an ORDER has REST 0; 0: it has now; -2 in none");
        PayOrders x = made(";order a rank 1 keep 0 total 199 sum 1 at p");
        due.granted(x, "199 to take", x.done(0, 1), 199);
        x.total(0, 200);
        due.granted(x, "200 to take", x.done(0, 1), 200);
        due.granted(x, "200 to take, of as much as may be", x.done(0, 9999), 200);
        x.total(0, 201);
        due.granted(x, "201 to take", x.done(0, 1), -2);
        x.weeks(1);
        due.granted(x, "201 to take, 1 OWED", x.done(0, 2), 200);
        x.total(0, 2);
        due.granted(x, "2 to take, 1 OWED", x.done(0, 9999), 1);
        due.granted(x, "2 to take of 1", x.done(0, 1), 2);
        due.granted(x, "2 to take of nothing", x.done(0, 0), -2);
        x.total(0, 0);
        due.granted(x, "without end", x.done(0, 9999), -2);
        x.total(0, 1);
        x.pay(0, 1);
        due.granted(x, "it has now", x.done(0, 0), 0);
        due.granted(x, "it has now", x.done(0, 9999), 0);
        x.stop(0, true);
        due.granted(x, "it has now, and is STOPPED", x.done(0, 9999), 0);
        x.total(0, 2);
        due.granted(x, "it hasn't, and is STOPPED", x.done(0, 9999), -2);
        x.stop(0, false);
        due.granted(x, "1 to take", x.done(0, 9999), 1);
        x.at(0, 2);
        due.granted(x, "at no PAYER", x.done(0, 9999), -2);
    }

    private static void doneByWeeks() {
        due.by("Promise 20, a PAYER of four WEEKS pays in WEEK 200 at last");
        PayOrders x = Due.made("desk keep 0 part 0 share even;payer p weeks 4;order a rank 1 keep 0 total 196 sum 1 at p");
        due.is("196 to take", x.done(0, 9999), 196);
        x.total(0, 197);
        due.is("197 to take", x.done(0, 9999), 200);
        x.total(0, 200);
        due.is("200 to take", x.done(0, 9999), 200);
        x.total(0, 201);
        due.is("201 to take", x.done(0, 9999), -2);
        x.total(0, 1);
        due.is("1 to take", x.done(0, 9999), 4);
    }

    private static void ahead() {
        due.by("Promise 21, what an ORDER TAKES in a RUN of n (1 .. 200) WEEKS (0), what it is OWED then (1)");
        PayOrders x = made(";order a rank 1 keep 0 total 0 sum 10 at p;order b rank 2 keep 0 total 30 part 50 at p");
        due.granted(x, "1 WEEK of 8", x.ahead(0, 8, 1, 0), 8);
        due.granted(x, "1 WEEK of 8, OWED", x.ahead(0, 8, 1, 1), 2);
        due.granted(x, "200 WEEKS of 8", x.ahead(0, 8, 200, 0), 1600);
        due.granted(x, "200 WEEKS of 8, OWED", x.ahead(0, 8, 200, 1), 400);
        due.granted(x, "200 WEEKS of nothing", x.ahead(0, 0, 200, 0), 0);
        due.granted(x, "200 WEEKS of nothing, OWED", x.ahead(0, 0, 200, 1), 2000);
        due.granted(x, "200 WEEKS of as much as may be", x.ahead(0, 9999, 200, 0), 2000);
        due.granted(x, "its TOTAL", x.ahead(1, 9999, 200, 0), 30);
        due.granted(x, "its TOTAL, OWED", x.ahead(1, 9999, 200, 1), 0);
        x.weeks(1);
        x.pay(0, 20);
        due.granted(x, "what it TOOK ahead is none of it", x.ahead(0, 9999, 1, 0), 10);
        due.granted(x, "what it TOOK ahead is none of it", x.ahead(1, 9999, 1, 0), 25);
        x.stop(0, true);
        due.granted(x, "STOPPED", x.ahead(0, 9999, 200, 0), 0);
        x.stop(0, false);
        x.weeks(1);
        x.stop(0, true);
        due.granted(x, "STOPPED, OWED", x.ahead(0, 9999, 200, 1), 10);
        due.by("Promise 21, as much as an ORDER can take");
        PayOrders y = Due.made("desk keep 0 part 0 share even;payer p weeks 1;payer q weeks 1;payer r weeks 1"
                + ";table t all from 0 take 99;order a rank 1 keep 0 total 0 table t at all");
        due.granted(y, "600 PAYS", y.ahead(0, 9999, 200, 0), 600 * 9899);
    }

    private static void steady() {
        due.by("Promise 22, the least NET of 0, 50, 100, .., 9,950 with which no LIVE ORDER is OWED anything at last");
        PayOrders x = withSum(50);
        due.granted(x, "50 a WEEK", x.steady(1), 50);
        due.granted(x, "50 a WEEK, 20 WEEKS", x.steady(20), 50);
        x.raise(0, 51);
        due.granted(x, "51 a WEEK", x.steady(1), 100);
        x.raise(0, 49);
        due.granted(x, "49 a WEEK", x.steady(1), 50);
        x.stop(0, true);
        due.granted(x, "STOPPED, nothing OWED", x.steady(1), 0);
        x.stop(0, false);
        x.weeks(1);
        x.stop(0, true);
        due.granted(x, "STOPPED and OWED", x.steady(20), 0);
        x.stop(0, false);
        due.granted(x, "98 OWED in WEEK 1", x.steady(1), 100);
        due.granted(x, "1,029 OWED in 20 WEEKS", x.steady(20), 100);
        x.forgive(0);
        x.at(0, 2);
        due.granted(x, "at no PAYER", x.steady(20), -2);
        PayOrders y = Due.made("desk keep 0 part 0 share even;payer p weeks 4;order a rank 1 keep 0 total 0 sum 10 at p");
        int[] of = {-2, -2, -2, 50, -2, -2, -2, 50};
        for (int n = 1; n <= 8; n++) {
            due.granted(y, "PAYER of four WEEKS, steady(" + n + ")", y.steady(n), of[n - 1]);
        }
        due.granted(y, "steady(19)", y.steady(19), -2);
        due.granted(y, "steady(20)", y.steady(20), 50);
        due.granted(made(""), "no ORDER", made("").steady(20), 0);
        due.granted(made(""), "a part is OWED nothing",
                made(";order a rank 1 keep 0 total 0 part 99 at p").steady(20), 0);
        PayOrders z = made(";order a rank 1 keep 0 total 5 sum 5 at p");
        z.weeks(1);
        z.pay(0, 5);
        due.granted(z, "REST 0", z.steady(1), 0);
    }

    private static void steadyOfMost() {
        due.by("Promise 22, 9,950 at most; -2 none");
        PayOrders x = withSum(199);
        x.weeks(48);
        due.granted(x, "9,751 in WEEK 1", x.steady(1), 9800);
        x.weeks(1);
        due.granted(x, "9,950 in WEEK 1", x.steady(1), 9950);
        x.weeks(1);
        due.granted(x, "10,149 in WEEK 1", x.steady(1), -2);
        PayOrders y = withSum(321);
        y.weeks(30);
        due.granted(y, "9,951 in WEEK 1", y.steady(1), -2);
        due.granted(y, "10,272 in WEEK 2", y.steady(2), 5150);
        PayOrders z = made(";order a rank 1 keep 0 total 0 sum 999 at p;order b rank 2 keep 0 total 0 sum 1 at p");
        z.weeks(60);
        z.weeks(60);
        z.weeks(60);
        due.granted(z, "200,000 in WEEK 20", z.steady(20), -2);
        z.pay(0, 1050);
        due.granted(z, "198,950 in WEEK 20", z.steady(20), 9950);
    }
}
