/** Promises 1 to 5 and 33: the tape, the text of a desk and its faults. */
public final class DeskTextTest {
    private static final String DESK = "desk keep 1 part 2 share even";
    private static final String PAYER = DESK + ";payer p weeks 1";
    private static final Due due = new Due();

    public static void main(String[] args) {
        aNewObject();
        theTape();
        theDeskTakesTheTape();
        aDeskKeepsNothingOfEarlierOnes();
        whatAFaultLeaves();
        form();
        wholes();
        names();
        againManyLacks();
        theFirstFromTheLeft();
        due.end("DeskTextTest");
    }

    private static void aNewObject() {
        PayOrders x = new PayOrders();
        due.is("size() at first", x.size(), 0);
        due.is("trouble() at first", x.trouble(), 0);
        due.is("fault() at first", x.fault(), 0);
        due.is("where() at first", x.where(), -1);
        due.refused(x, "about(0) at first", x.about(0), 1);
        due.refused(x, "weeks(0) at first", x.weeks(0), 1);
        due.refused(x, "steady(0) at first", x.steady(0), 1);
        due.refused(x, "order(0, 0) at first", x.order(0, 0), 1);
        due.refused(x, "past(0, 0) at first", x.past(0, 0), 1);
        due.noTurn(x, 0, 0);
    }

    private static void theTape() {
        PayOrders x = new PayOrders();
        x.about(0);
        for (int i = 1; i <= 25; i++) {
            due.is("feed " + i, x.feed(0, 0, 0, 0, 0), 20 * i);
        }
        due.is("feed behind 500", x.feed(0, 0, 0, 0, 0), -1);
        due.is("size() of a full tape", x.size(), 500);
        due.is("trouble() stays by feed", x.trouble(), 1);
        due.refused(x, "desk(501)", x.desk(501), 2);
        due.refused(x, "desk(-1)", x.desk(-1), 2);
        due.is("size() behind a refused n", x.size(), 500);
        due.is("fault() behind a refused n", x.fault(), 0);
        due.is("where() behind a refused n", x.where(), -1);
        due.refused(x, "desk(500) of zeros", x.desk(500), 4);
        due.is("where() of zeros", x.where(), 0);
        due.is("size() behind a fault", x.size(), 0);
        due.is("feed behind a fault", x.feed(-1, -1, -1, -1, -1), 20);
        due.refused(x, "desk(20) of 255s", x.desk(20), 4);
        due.is("fault() of 255s", x.fault(), 1);
        due.is("a full text", Due.tell(x, PAYER + " ".repeat(500 - PAYER.length())), 0);
    }

    private static void theDeskTakesTheTape() {
        PayOrders x = new PayOrders();
        String text = PAYER + ";payer q weeks 2";
        Due.feedAll(x, text);
        due.is("a desk of a part of the tape", x.desk(PAYER.length()), 0);
        due.is("size() behind it", x.size(), 0);
        due.is("trouble() behind it", x.trouble(), 0);
        due.is("PAYERS of it", x.about(4), 1);
        due.is("a desk with no blanks", Due.tell(x, "desk keep1part2share even;payer p weeks1;order a rank1keep0total0sum5at all"), 1);
        due.is("a desk with many blanks", Due.tell(x, "  desk  keep 00001 part 2 share even ; payer p weeks 1  "), 0);
        due.is("KEEP of it", x.about(0), 1);
        due.is("keywords as names", Due.tell(x, DESK
                + ";table from all from 0 take 1;payer keep weeks 1;order at rank 1 keep 0 total 0 table from at keep"), 1);
        due.is("one name for three sorts", Due.tell(x, PAYER
                + ";table p steps from 0 take 1;order p rank 1 keep 0 total 0 table p at p"), 1);
        due.is("a name of six letters", Due.tell(x, DESK + ";payer abcdef weeks 1;payer abcdeg weeks 1"), 0);
        x.weeks(3);
        x.pay(0, 5);
        due.is("a new desk", Due.tell(x, PAYER), 0);
        due.is("its WEEK", x.about(6), 0);
        due.is("its PAYS", x.about(7), 0);
        due.is("its NETS", x.about(8), 0);
        due.refused(x, "its log", x.past(0, 0), 1);
    }

    private static void aDeskKeepsNothingOfEarlierOnes() {
        PayOrders x = new PayOrders();
        String busy = PAYER + ";table t all from 0 take 9 from 5 take 8;order a rank 1 keep 0 total 0 part 9 at p"
                + ";order b rank 1 keep 0 total 0 table t at p";
        for (int i = 0; i < 2; i++) {
            due.is("a busy desk", Due.tell(x, busy), 2);
            x.weeks(9);
            x.pay(0, 500);
            x.stop(0, true);
            x.stop(1, true);
        }
        for (int i = 0; i < 2; i++) {
            due.is("a plain desk", Due.tell(x, PAYER + ";table z steps from 7 take 1"
                    + ";order zzz rank 1 keep 0 total 50 sum 5 at p;order yz rank 1 keep 0 total 0 part 1 at p"), 2);
            for (int what = 6; what < 11; what++) {
                due.is("about(" + what + ") of a plain desk", x.about(what), 0);
            }
            due.is("TABLES of a plain desk", x.about(3), 1);
            due.refused(x, "row(0, 1, 0) of a plain desk", x.row(0, 1, 0), 1);
            for (int what = 1; what < 4; what++) {
                due.is("payer(0, " + what + ") of a plain desk", x.payer(0, what), 0);
            }
            int[] plain = {1, 0, 50, 0, 5, 1, 0, 0, 50, 1, 0, 0};
            for (int what = 0; what < 12; what++) {
                due.is("order(0, " + what + ") of a plain desk", x.order(0, what), plain[what]);
            }
            due.is("LIVE ones of a plain desk", x.about(11), 3);
            x.weeks(1);
            x.pay(0, 50);
            due.is("the log of a plain desk", x.past(0, 4), 1);
            due.refused(x, "the log of a plain desk", x.past(1, 0), 1);
        }
    }

    private static void whatAFaultLeaves() {
        PayOrders x = Due.made(PAYER + ";order a rank 1 keep 0 total 0 sum 5 at p");
        x.weeks(2);
        x.pay(0, 6);
        due.refused(x, "a faulty desk", Due.tell(x, "desk keep 7 part 2 share even;payer p weeks 9"), 4);
        due.is("where()", x.where(), 44);
        due.is("the desk stays", x.about(0), 1);
        due.is("where() behind another call", x.where(), -1);
        due.is("fault() behind another call", x.fault(), 2);
        due.is("OWED stays", x.order(0, 7), 5);
        due.is("the log stays", x.past(0, 1), 6);
        due.refused(x, "desk(1) of no tape", x.desk(1), 2);
        due.is("fault() of the one before", x.fault(), 2);
        due.is("where() by 2", x.where(), -1);
        due.is("a good desk", Due.tell(x, PAYER), 0);
        due.is("fault() without one", x.fault(), 0);
        due.refused(x, "nothing", x.desk(0), 4);
        due.is("fault() of nothing", x.fault(), 1);
        due.is("size() leaves where()", x.size(), 0);
        due.is("feed() leaves where()", x.feed(0, 0, 0, 0, 0), 20);
        due.noTurn(x, 5, 5);
        due.is("where() of nothing", x.where(), 0);
        due.is("trouble() of nothing", x.trouble(), 4);
    }

    private static void form() {
        due.faulty("^", 1);
        due.faulty("   ^", 1);
        due.faulty("^;", 1);
        due.faulty("^desks", 1);
        due.faulty("  ^Desk", 1);
        due.faulty("desk^", 1);
        due.faulty("desk  ^", 1);
        due.faulty("desk keep^", 1);
        due.faulty("desk keep ^x", 1);
        due.faulty("desk keep ^123456", 1);
        due.faulty("desk keep 1 ^2", 1);
        due.faulty("desk keep 1^\npart", 1);
        due.faulty("desk keep 1 part 2 share ^all", 1);
        due.faulty(DESK + ";^", 1);
        due.faulty(DESK + " ^payer", 1);
        due.faulty(PAYER + "; ^", 1);
        due.faulty(PAYER + ";^;", 1);
        due.faulty(DESK + ";payer ^abcdefg weeks 1", 1);
        due.faulty(DESK + ";payer ^all weeks 1", 1);
        due.faulty(DESK + ";payer ^desk weeks 1", 1);
        due.faulty(DESK + ";payer ^5 weeks 1", 1);
        due.faulty(DESK + ";table ^order all", 1);
        due.faulty(DESK + ";table t ^even", 1);
        due.faulty(DESK + ";table t all^", 1);
        due.faulty(DESK + ";table t all^;", 1);
        due.faulty(DESK + ";table t all from 1 take 2 ^take 3", 1);
        due.faulty(PAYER + ";order a rank 1 keep 0 total 0 ^all", 1);
        due.faulty(PAYER + ";order a rank 1 keep 0 total 0 table ^all at p", 1);
        due.faulty(PAYER + ";order a rank 1 keep 0 total 0 sum 5 at ^payer", 1);
        due.faulty(PAYER + ";order a rank 1 keep 0 total 0 sum 5 at all ^p", 1);
        due.faulty(PAYER + "^\u00e9", 1);
    }

    private static void wholes() {
        due.faulty("desk keep ^1000", 2);
        due.faulty("desk keep 999 part ^100", 2);
        due.faulty(DESK + ";payer p weeks ^0", 2);
        due.faulty(DESK + ";payer p weeks ^5", 2);
        due.faulty(DESK + ";table t all from ^10000", 2);
        due.faulty(DESK + ";table t all from 9999 take ^100", 2);
        due.faulty(DESK + ";table t all from 5 take 1 from ^5", 2);
        due.faulty(DESK + ";table t all from 5 take 1 from ^4", 2);
        due.faulty(PAYER + ";order a rank ^0", 2);
        due.faulty(PAYER + ";order a rank ^10", 2);
        due.faulty(PAYER + ";order a rank 9 keep ^1000", 2);
        due.faulty(PAYER + ";order a rank 1 keep 0 total 99999 sum ^0", 2);
        due.faulty(PAYER + ";order a rank 1 keep 0 total 0 sum ^1000", 2);
        due.faulty(PAYER + ";order a rank 1 keep 0 total 0 part ^0", 2);
        due.faulty(PAYER + ";order a rank 1 keep 0 total 0 part ^100", 2);
        PayOrders x = new PayOrders();
        due.is("all at their greatest", Due.tell(x, "desk keep 999 part 99 share parts;payer p weeks 4"
                + ";table t steps from 9998 take 99 from 9999 take 0"
                + ";order a rank 9 keep 999 total 99999 sum 999 at p;order b rank 1 keep 0 total 0 part 99 at p"), 2);
    }

    private static void names() {
        due.faulty(PAYER + ";payer ^p", 3);
        due.faulty(PAYER + ";table p all from 0 take 0;table ^p", 3);
        due.faulty(PAYER + ";order a rank 1 keep 0 total 0 sum 5 at p;order ^a", 3);
        due.faulty(PAYER + ";order a rank 1 keep 0 total 0 sum 5 at ^q;payer q weeks 1", 3);
        due.faulty(PAYER + ";order a rank 1 keep 0 total 0 table ^p at p", 3);
    }

    private static void againManyLacks() {
        due.faulty(DESK + ";^desk", 4);
        due.faulty(DESK + ";^desk keep 5000", 4);
        due.faulty(PAYER + ";payer q weeks 1;payer r weeks 1;^payer s weeks 1", 5);
        due.faulty(DESK + ";table a all from 0 take 1;table b all from 0 take 1;table c all from 0 take 1;^table", 5);
        String orders = PAYER;
        for (char c = 'a'; c < 'g'; c++) {
            orders += ";order " + c + " rank 1 keep 0 total 0 sum 1 at p";
        }
        due.is("six orders", Due.tell(new PayOrders(), orders), 6);
        due.faulty(orders + ";^order order", 5);
        String rows = DESK + ";table t all";
        for (int i = 0; i < 6; i++) {
            rows += " from " + i + " take 1";
        }
        due.is("six rows", Due.tell(new PayOrders(), rows + ";payer p weeks 1"), 0);
        due.faulty(rows + " ^from x", 5);
        due.faulty("^payer p weeks 1;" + DESK, 6);
        due.faulty(" ^table 5", 6);
        due.faulty("^order", 6);
        due.faulty(DESK + "^", 6);
        due.faulty(DESK + "  ^", 6);
        due.faulty(DESK + ";order a rank 1 keep 0 total 0 sum 5 at all^", 6);
    }

    private static void theFirstFromTheLeft() {
        due.faulty("desk keep ^1000 part 1000000", 2);
        due.faulty("desk keep 1 part 2 share even;payer p weeks ^7;payer p weeks 1", 2);
        due.faulty(PAYER + ";payer ^p weeks 9", 3);
        due.faulty("^order ?", 6);
    }
}
