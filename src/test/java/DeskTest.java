/** Promises 6 to 12, 32 and 34: what a desk tells. */
public final class DeskTest {
    private static final String TEXT = "desk keep 50 part 25 share even"
            + ";table big all from 100 take 10 from 200 take 20"
            + ";table slow steps from 50 take 7 from 100 take 10 from 200 take 20"
            + ";payer mill weeks 1;order kid rank 4 keep 60 total 0 sum 40 at all;payer shop weeks 4"
            + ";order tax rank 2 keep 0 total 500 table slow at mill"
            + ";order loan rank 2 keep 100 total 90 part 30 at mill";
    private static final Due due = new Due();

    public static void main(String[] args) {
        about();
        orders();
        payers();
        tables();
        floors();
        turns();
        due.end("DeskTest");
    }

    private static void about() {
        PayOrders x = Due.made(TEXT);
        int[] at = {50, 25, 1, 2, 2, 3, 0, 0, 0, 0, 0, 7};
        for (int what = 0; what < at.length; what++) {
            due.is("about(" + what + ")", x.about(what), at[what]);
        }
        PayOrders y = Due.made("desk keep 0 part 0 share parts;payer p weeks 1");
        due.is("about(2) by parts", y.about(2), 0);
        due.refused(x, "about(12)", x.about(12), 1);
        due.refused(x, "about(-1)", x.about(-1), 1);
        x.weeks(2);
        x.pay(0, 150);
        x.pay(1, 1000);
        x.stop(0, true);
        due.is("trouble() of none", x.trouble(), 0);
        // mill: tax wants 3 + 5, loan 30 of the 100 above 50; 50 are above loan's 100, so both have it,
        // then 52 are above kid's 60; shop: kid wants 28 of what is above 250 yet
        int[] then = {2, 2, 1150, 8 + 30 + 52 + 28, 0, 6};
        for (int what = 6; what < 12; what++) {
            due.is("about(" + what + ") then", x.about(what), then[what - 6]);
        }
        x.stop(0, false);
        x.weeks(1);
        x.stop(0, true);
        due.is("about(10) with a stopped one", x.about(10), 40);
        int taken = x.about(9);
        x.back(1, 1);
        due.is("about(9), what is given back aside", x.about(9), taken);
    }

    private static void orders() {
        PayOrders x = Due.made(TEXT);
        int[][] at = {
            {4, 60, 0, 0, 40, 3, 0, 0, 999_999, 1, 0, 0},
            {2, 0, 500, 1, 1, 1, 0, 0, 500, 1, 0, 0},
            {2, 100, 90, 2, 30, 1, 0, 0, 90, 1, 0, 0},
        };
        for (int o = 0; o < at.length; o++) {
            for (int what = 0; what < 12; what++) {
                due.is("order(" + o + ", " + what + ")", x.order(o, what), at[o][what]);
            }
        }
        due.refused(x, "order(3, 0)", x.order(3, 0), 1);
        due.refused(x, "order(-1, 0)", x.order(-1, 0), 1);
        due.refused(x, "order(0, 12)", x.order(0, 12), 1);
        due.refused(x, "order(0, -1)", x.order(0, -1), 1);
        x.pay(0, 1000);
        // part 25 of 1000 is the floor, 250; tax takes 3 + 10 + 160; loan 30% of 750, but 90
        due.is("tax TOOK", x.order(1, 6), 173);
        due.is("tax REST", x.order(1, 8), 327);
        due.is("loan TOOK", x.order(2, 6), 90);
        due.is("loan REST", x.order(2, 8), 0);
        due.is("loan LIVE", x.order(2, 9), 0);
        due.is("loan OWED", x.order(2, 7), 0);
        due.is("loan PAYS", x.order(2, 11), 1);
        due.is("kid PAYS", x.order(0, 11), 0);
        due.is("about(11)", x.about(11), 3);
        x.pay(0, 1000);
        due.is("loan PAYS later", x.order(2, 11), 1);
        due.is("tax PAYS later", x.order(1, 11), 2);
    }

    private static void payers() {
        PayOrders x = Due.made(TEXT);
        int[][] at = {{1, 0, 0, 0, 7}, {4, 0, 0, 0, 1}};
        for (int p = 0; p < 2; p++) {
            for (int what = 0; what < 5; what++) {
                due.is("payer(" + p + ", " + what + ")", x.payer(p, what), at[p][what]);
            }
        }
        due.refused(x, "payer(2, 0)", x.payer(2, 0), 1);
        due.refused(x, "payer(-1, 0)", x.payer(-1, 0), 1);
        due.refused(x, "payer(0, 5)", x.payer(0, 5), 1);
        due.refused(x, "payer(0, -1)", x.payer(0, -1), 1);
        x.pay(0, 1000);
        x.pay(0, 0);
        x.back(2, 50);
        due.is("payer(0, 1)", x.payer(0, 1), 2);
        due.is("payer(0, 2)", x.payer(0, 2), 1000);
        due.is("payer(0, 3)", x.payer(0, 3), 263);
        due.is("payer(1, 1)", x.payer(1, 1), 0);
        x.stop(1, true);
        due.is("payer(0, 4)", x.payer(0, 4), 5);
    }

    private static void tables() {
        PayOrders x = Due.made(TEXT);
        int[][] tells = {
            {0, 0, 1, 0}, {0, 99, 1, 0}, {0, 100, 1, 10}, {0, 199, 1, 19}, {0, 200, 1, 40}, {0, 9999, 1, 1999},
            {0, 399, 4, 0}, {0, 400, 4, 40}, {0, 799, 4, 79}, {0, 800, 4, 160},
            {1, 50, 1, 0}, {1, 64, 1, 0}, {1, 65, 1, 1}, {1, 100, 1, 3}, {1, 109, 1, 3}, {1, 110, 1, 4},
            {1, 200, 1, 13}, {1, 250, 1, 23}, {1, 1000, 4, 14 + 40 + 40}, {1, 9999, 1, 3 + 10 + 1959},
        };
        for (int[] t : tells) {
            due.is("table(" + t[0] + ", " + t[1] + ", " + t[2] + ")", x.table(t[0], t[1], t[2]), t[3]);
        }
        due.refused(x, "table(2, 0, 1)", x.table(2, 0, 1), 1);
        due.refused(x, "table(-1, -1, 1)", x.table(-1, -1, 1), 1);
        due.refused(x, "table(0, -1, 1)", x.table(0, -1, 1), 2);
        due.refused(x, "table(0, 10000, 1)", x.table(0, 10000, 1), 2);
        due.refused(x, "table(0, 0, 0)", x.table(0, 0, 0), 2);
        due.refused(x, "table(0, 0, 5)", x.table(0, 0, 5), 2);
        due.is("row(1, 0, 0)", x.row(1, 0, 0), 50);
        due.is("row(1, 2, 1)", x.row(1, 2, 1), 20);
        due.is("row(0, 1, 0)", x.row(0, 1, 0), 200);
        due.refused(x, "row(0, 2, 0)", x.row(0, 2, 0), 1);
        due.refused(x, "row(0, -1, 0)", x.row(0, -1, 0), 1);
        due.refused(x, "row(2, 0, 0)", x.row(2, 0, 0), 1);
        due.refused(x, "row(0, 0, 2)", x.row(0, 0, 2), 1);
        due.refused(x, "row(0, 0, -1)", x.row(0, 0, -1), 1);
    }

    private static void floors() {
        PayOrders x = Due.made(TEXT);
        due.is("floor(0, 0)", x.floor(0, 0), 50);
        due.is("floor(0, 200)", x.floor(0, 200), 50);
        due.is("floor(0, 201)", x.floor(0, 201), 51);
        due.is("floor(0, 204)", x.floor(0, 204), 51);
        due.is("floor(0, 9999)", x.floor(0, 9999), 2500);
        due.is("floor(1, 800)", x.floor(1, 800), 200);
        due.refused(x, "floor(2, 10000)", x.floor(2, 10000), 1);
        due.refused(x, "floor(0, 10000)", x.floor(0, 10000), 2);
        due.refused(x, "floor(0, -1)", x.floor(0, -1), 2);
        due.is("ownFloor(0, 0, 0)", x.ownFloor(0, 0, 0), 60);
        due.is("ownFloor(0, 0, 240)", x.ownFloor(0, 0, 240), 60);
        due.is("ownFloor(0, 0, 241)", x.ownFloor(0, 0, 241), 61);
        due.is("ownFloor(1, 0, 0)", x.ownFloor(1, 0, 0), 50);
        due.is("ownFloor(2, 1, 0), not at that payer", x.ownFloor(2, 1, 0), 400);
        due.refused(x, "ownFloor(3, 0, 0)", x.ownFloor(3, 0, 0), 1);
        due.refused(x, "ownFloor(0, 2, 10000)", x.ownFloor(0, 2, 10000), 1);
        due.refused(x, "ownFloor(0, 0, 10000)", x.ownFloor(0, 0, 10000), 2);
    }

    private static void turns() {
        PayOrders x = Due.made(TEXT);
        x.about(99);
        due.is("turn(0, 0)", x.turn(0, 0), 1);
        due.is("turn(0, 1)", x.turn(0, 1), 2);
        due.is("turn(0, 2)", x.turn(0, 2), 0);
        due.noTurn(x, 0, 3);
        due.noTurn(x, 0, -1);
        due.is("turn(1, 0)", x.turn(1, 0), 0);
        due.noTurn(x, 1, 1);
        due.noTurn(x, 2, 0);
        due.noTurn(x, -1, 0);
        due.is("trouble() stays by turn", x.trouble(), 1);
        x.rank(1, 9);
        due.is("turn(0, 2) of RANK 9", x.turn(0, 2), 1);
        x.stop(1, true);
        x.rank(0, 1);
        due.is("turn(0, 0) then", x.turn(0, 0), 0);
        due.is("turn(0, 1) then", x.turn(0, 1), 2);
        due.noTurn(x, 0, 2);
    }
}
