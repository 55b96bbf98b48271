/** Promises 15 to 22: what would be. */
public final class WouldTest {
    private static final Due due = new Due();

    public static void main(String[] args) {
        would();
        enoughAndFirst();
        doneAndAhead();
        payersInARun();
        steady();
        nothingChanges();
        due.end("WouldTest");
    }

    private static PayOrders made() {
        return Due.made("desk keep 50 part 25 share even;table t all from 100 take 10 from 200 take 20"
                + ";payer p weeks 1;payer q weeks 4"
                + ";order kid rank 1 keep 60 total 0 sum 40 at all"
                + ";order tax rank 2 keep 0 total 500 table t at p"
                + ";order loan rank 2 keep 100 total 90 part 30 at p");
    }

    private static void would() {
        PayOrders x = made();
        x.weeks(1);
        int[][] of = {{40, 40, 0}, {15, 15, 0}, {18, 5, 13}};
        for (int o = 0; o < 3; o++) {
            for (int what = 0; what < 3; what++) {
                due.is("would(0, 150, " + o + ", " + what + ")", x.would(0, 150, o, what), of[o][what]);
            }
        }
        due.is("left(0, 150)", x.left(0, 150), 90);
        due.is("left(0, 0)", x.left(0, 0), 0);
        due.is("ranked(0, 150, 1)", x.ranked(0, 150, 1), 40);
        due.is("ranked(0, 150, 2)", x.ranked(0, 150, 2), 20);
        due.is("ranked(0, 150, 9)", x.ranked(0, 150, 9), 0);
        x.stop(0, true);
        int[] notLive = {0, 0, 40};
        for (int what = 0; what < 3; what++) {
            due.is("would of a stopped one, " + what, x.would(0, 150, 0, what), notLive[what]);
        }
        due.is("would of one elsewhere", x.would(1, 500, 1, 0), 0);
        due.refused(x, "would(2, 0, 0, 0)", x.would(2, 0, 0, 0), 1);
        due.refused(x, "would(0, -1, 3, 0)", x.would(0, -1, 3, 0), 1);
        due.refused(x, "would(0, -1, 0, 3)", x.would(0, -1, 0, 3), 1);
        due.refused(x, "would(0, 0, 0, -1)", x.would(0, 0, 0, -1), 1);
        due.refused(x, "would(0, -1, 0, 0)", x.would(0, -1, 0, 0), 2);
        due.refused(x, "would(0, 10000, 0, 0)", x.would(0, 10000, 0, 0), 2);
        due.refused(x, "left(2, -1)", x.left(2, -1), 1);
        due.refused(x, "left(0, -1)", x.left(0, -1), 2);
        due.refused(x, "left(0, 10000)", x.left(0, 10000), 2);
        due.refused(x, "ranked(-1, 0, 0)", x.ranked(-1, 0, 0), 1);
        due.refused(x, "ranked(0, 0, 0)", x.ranked(0, 0, 0), 2);
        due.refused(x, "ranked(0, 0, 10)", x.ranked(0, 0, 10), 2);
        due.refused(x, "ranked(0, 10000, 1)", x.ranked(0, 10000, 1), 2);
    }

    private static void enoughAndFirst() {
        PayOrders x = made();
        due.is("enough(0, 0), nothing wanted", x.enough(0, 0), -2);
        due.is("first(0, 0), nothing wanted", x.first(0, 0), -2);
        x.weeks(1);
        due.is("enough(0, 0)", x.enough(0, 0), 100);
        due.is("first(0, 0)", x.first(0, 0), 61);
        due.is("enough(0, 1)", x.enough(0, 1), 280);
        due.is("first(0, 1)", x.first(0, 1), 241);
        // 60 are left of 100 behind kid, and the table, which tells nothing of 99, wants 10 above 50
        due.is("first(1, 0)", x.first(1, 0), 100);
        due.is("enough(1, 0)", x.enough(1, 0), 100);
        due.is("enough(2, 0)", x.enough(2, 0), 186);
        due.is("first(2, 0)", x.first(2, 0), 142);
        due.is("first(2, 1), not there", x.first(2, 1), -2);
        due.refused(x, "enough(2, 1)", x.enough(2, 1), 5);
        due.refused(x, "enough(3, 0)", x.enough(3, 0), 1);
        due.refused(x, "enough(0, 2)", x.enough(0, 2), 1);
        due.refused(x, "first(-1, 0)", x.first(-1, 0), 1);
        due.refused(x, "first(0, -1)", x.first(0, -1), 1);
        x.stop(0, true);
        due.is("first of a stopped one", x.first(0, 0), -2);
        due.refused(x, "enough of a stopped one", x.enough(0, 0), 5);
        PayOrders y = Due.made("desk keep 999 part 99 share even;payer p weeks 4;order a rank 1 keep 0 total 0 sum 99 at p");
        y.weeks(60);
        due.is("enough, never", y.enough(0, 0), -2);
        due.is("first, just above the FLOOR", y.first(0, 0), 3997);
        PayOrders z = Due.made("desk keep 0 part 0 share even;payer p weeks 1;table t all from 9999 take 99"
                + ";order a rank 1 keep 0 total 1 table t at p;order b rank 1 keep 999 total 0 sum 999 at p");
        due.is("enough at 9,999", z.enough(0, 0), 9999);
        due.is("first at 9,999", z.first(0, 0), 9999);
        z.weeks(9);
        due.is("enough above its own KEEP", z.enough(1, 0), 9990);
        z.weeks(1);
        due.is("enough in none", z.enough(1, 0), -2);
    }

    private static void doneAndAhead() {
        PayOrders x = Due.made("desk keep 10 part 0 share even;payer p weeks 1"
                + ";order a rank 1 keep 0 total 100 sum 30 at p;order b rank 2 keep 0 total 0 sum 10 at p");
        due.is("done(0, 40)", x.done(0, 40), 4);
        due.is("done(0, 20)", x.done(0, 20), 10);
        due.is("done(0, 10)", x.done(0, 10), -2);
        due.is("done(1, 9999), without end", x.done(1, 9999), -2);
        due.is("ahead(0, 40, 3, 0)", x.ahead(0, 40, 3, 0), 90);
        due.is("ahead(0, 40, 200, 0)", x.ahead(0, 40, 200, 0), 100);
        due.is("ahead(1, 40, 3, 1)", x.ahead(1, 40, 3, 1), 30);
        due.is("ahead(1, 40, 4, 0)", x.ahead(1, 40, 4, 0), 20);
        due.is("ahead(0, 0, 200, 1)", x.ahead(0, 0, 200, 1), 100);
        x.weeks(1);
        x.pay(0, 30);
        due.is("ahead counts from now", x.ahead(0, 40, 200, 0), 80);
        due.is("done from now", x.done(0, 40), 3);
        x.stop(0, true);
        due.is("done, stopped", x.done(0, 40), -2);
        x.total(0, 20);
        due.is("done now", x.done(0, 0), 0);
        due.refused(x, "done(2, -1)", x.done(2, -1), 1);
        due.refused(x, "done(0, -1)", x.done(0, -1), 2);
        due.refused(x, "done(0, 10000)", x.done(0, 10000), 2);
        due.refused(x, "ahead(2, 0, 1, 0)", x.ahead(2, 0, 1, 0), 1);
        due.refused(x, "ahead(0, -1, 0, 2)", x.ahead(0, -1, 0, 2), 1);
        due.refused(x, "ahead(0, 0, 0, 0)", x.ahead(0, 0, 0, 0), 2);
        due.refused(x, "ahead(0, 0, 201, 0)", x.ahead(0, 0, 201, 0), 2);
        due.refused(x, "ahead(0, -1, 1, 0)", x.ahead(0, -1, 1, 0), 2);
        PayOrders y = Due.made("desk keep 0 part 0 share even;payer p weeks 1;order a rank 1 keep 0 total 200 sum 1 at p");
        due.is("done in WEEK 200", y.done(0, 1), 200);
        y.total(0, 201);
        due.is("done behind WEEK 200", y.done(0, 1), -2);
        PayOrders z = Due.made("desk keep 0 part 0 share even;payer p weeks 1;order a rank 1 keep 20 total 0 sum 9 at p");
        due.is("an ORDER's own KEEP in a RUN", z.ahead(0, 22, 3, 0), 6);
    }

    private static void payersInARun() {
        PayOrders x = Due.made("desk keep 0 part 0 share even;payer p weeks 3;payer q weeks 2"
                + ";order a rank 1 keep 0 total 0 part 50 at p;order b rank 1 keep 0 total 0 part 50 at q");
        x.weeks(1);
        due.is("payer of 3, by the RUN's own WEEKS", x.ahead(0, 100, 5, 0), 50);
        due.is("payer of 3, 6 WEEKS", x.ahead(0, 100, 6, 0), 100);
        due.is("payer of 2, 5 WEEKS", x.ahead(1, 100, 5, 0), 100);
        due.is("payer of 2, 1 WEEK", x.ahead(1, 100, 1, 0), 0);
    }

    private static void steady() {
        PayOrders x = Due.made("desk keep 20 part 0 share even;payer p weeks 2"
                + ";order a rank 1 keep 0 total 0 sum 40 at p");
        due.is("steady(1), no PAY yet", x.steady(1), -2);
        due.is("steady(2)", x.steady(2), 150);
        due.is("steady(3)", x.steady(3), -2);
        due.is("steady(20)", x.steady(20), 150);
        x.weeks(60);
        due.is("steady(2) with 2400 owed", x.steady(2), 2550);
        due.is("steady(20) with 2400 owed", x.steady(20), 400);
        x.stop(0, true);
        due.is("steady(1), none LIVE", x.steady(1), 0);
        due.refused(x, "steady(0)", x.steady(0), 2);
        due.refused(x, "steady(21)", x.steady(21), 2);
        PayOrders y = Due.made("desk keep 0 part 0 share even;payer p weeks 1;order a rank 1 keep 0 total 0 sum 999 at p");
        y.weeks(8);
        y.weeks(1);
        due.is("steady(1) above 9,950", y.steady(1), -2);
        y.pay(0, 40);
        due.is("steady(1) at 9,950", y.steady(1), 9950);
        PayOrders z = Due.made("desk keep 0 part 0 share even;payer p weeks 1;order a rank 1 keep 0 total 0 sum 51 at p");
        due.is("steady(1), 1 owed is too much", z.steady(1), 100);
    }

    private static void nothingChanges() {
        PayOrders x = made();
        x.weeks(2);
        x.pay(0, 120);
        int[] before = state(x);
        x.would(0, 500, 1, 1);
        x.left(1, 500);
        x.ranked(0, 500, 2);
        x.enough(2, 0);
        x.first(1, 0);
        x.done(2, 700);
        x.ahead(1, 700, 50, 0);
        x.steady(7);
        int[] behind = state(x);
        for (int i = 0; i < before.length; i++) {
            due.is("state " + i + " behind what would be", behind[i], before[i]);
        }
    }

    private static int[] state(PayOrders x) {
        int[] all = new int[12 + 3 * 12 + 2 * 5 + 5];
        int at = 0;
        for (int what = 0; what < 12; what++) {
            all[at++] = x.about(what);
            for (int o = 0; o < 3; o++) {
                all[at++] = x.order(o, what);
            }
        }
        for (int what = 0; what < 5; what++) {
            all[at++] = x.payer(0, what);
            all[at++] = x.payer(1, what);
            all[at++] = x.past(0, what);
        }
        return all;
    }
}
