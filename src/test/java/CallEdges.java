import java.util.List;
import java.util.function.Consumer;

/** What "Calls", "Hours" and "Selling out" say. */
final class CallEdges extends Edges {
    @Override
    void tell() {
        calls();
        hours();
        sellingOut();
    }

    private static void calls() {
        section("Calls");
        says("Behind each call of a method that changes something, and behind the interest of each hour, clients are looked at: "
                + "one whose debt is not covered, and who is not called, is called, and has as many hours left as the grace "
                + "tells (1 to 24, at first 6); one who is called, and whose debt is covered, is called no longer.");
        callsEach(h -> h.setPrice(0, 99));
        callsEach(h -> h.setCut(0, 21));
        callsEach(h -> h.fall(1));
        callsEach(h -> h.pass(1));
        callsEach(h -> Houses.follow(h, "p0=99"));
        callsEach(CallEdges::goBackToCalls);
        endsCalls(h -> h.setPrice(0, 100));
        endsCalls(h -> h.setCut(0, 19));
        endsCalls(h -> h.pledge(7, 5, 1));
        endsCalls(h -> h.deposit(7, 8));
        endsCalls(h -> h.payBack(7, 8));
        endsCalls(h -> Houses.follow(h, "b7=8"));
        endsCalls(PledgeHouse::undo);
        PledgeHouse edge = Houses.allCalled();
        edge.payBack(7, 7);
        due("isCalled with 1 too much", edge.isCalled(7), true);
        due("hoursLeft is as it was", edge.hoursLeft(7), 6);
        edge.payBack(7, 1);
        due("isCalled with just what is covered", edge.isCalled(7), false);
        for (int grace = 1; grace <= 24; grace++) {
            PledgeHouse h = Houses.borrowers(1, 800);
            h.changeGrace(grace);
            h.pass(1);
            due("hoursLeft behind the hour of the call", h.hoursLeft(0), grace);
            for (int hour = 1; hour <= grace; hour++) {
                due("sold out by hour " + hour + " of " + grace, h.pass(1), hour == grace ? 1 : 0);
            }
        }
        PledgeHouse again = Houses.allCalled();
        again.pass(5);
        again.setPrice(0, 98);
        clients(again, PledgeHouse::hoursLeft, 1);
        again.setPrice(0, 200);
        again.setPrice(0, 98);
        clients(again, PledgeHouse::hoursLeft, 6);
        says("(Within a text that is so behind each order.)");
        // Each client owes 805 of 792, with one hour left; the first order covers client 0, and the second one calls anew.
        for (String orders : new String[] {"p0=200;p0=99", "c0=0;c0=20", "+0:1*1;p1=1", "b0=13;p0=98", "b0=13;c0=21",
            "b0=805;l0=792;h1"}) {
            PledgeHouse text = Houses.allCalled();
            text.pass(5);
            int calls = text.calls();
            Houses.follow(text, orders);
            due("hoursLeft behind " + orders, text.hoursLeft(0), 6);
            C.that("no call is counted behind " + orders, text.calls() > calls);
        }
        PledgeHouse inHours = Houses.borrowers(1, 800);
        Houses.follow(inHours, "p0=99;h5;p0=101;p0=99;h5");
        due("hoursLeft", inHours.hoursLeft(0), 1);
        due("soldOut", inHours.soldOut(), 0);
    }

    private static void goBackToCalls(PledgeHouse h) {
        h.setPrice(0, 99);
        h.keep(0);
        h.undo();
        due("calledNow behind undo", h.calledNow(), 0);
        h.goBack(0);
    }

    /** 8 clients owe just what is covered, and each is called by what is done. */
    private static void callsEach(Consumer<PledgeHouse> change) {
        PledgeHouse h = Houses.borrowers(8, 800);
        change.accept(h);
        clients(h, (x, client) -> x.isCalled(client) ? 1 : 0, 1);
        clients(h, PledgeHouse::hoursLeft, 6);
        due("calls", h.calls(), 8);
    }

    private static void endsCalls(Consumer<PledgeHouse> change) {
        PledgeHouse h = Houses.allCalled();
        due("isCalled", h.isCalled(7), true);
        change.accept(h);
        due("isCalled behind the change", h.isCalled(7), false);
    }

    private static void hours() {
        section("Hours");
        says("With each hour, in this order: each debt becomes more by the interest: the debt times the rate (0 to 100, at first "
                + "10), divided by 10000, rounded up.");
        // Rate, debt and interest: a whole number of coins, and a ten thousandth part of one more.
        int[][] interests = {{10, 1, 1}, {10, 999, 1}, {10, 1000, 1}, {10, 1001, 2}, {10, 2000, 2}, {10, 2001, 3}, {0, 9999, 0},
            {1, 1, 1}, {1, 9999, 1}, {100, 1, 1}, {100, 100, 1}, {100, 101, 2}, {100, 9900, 99}, {100, 9901, 100},
            {7, 1428, 1}, {7, 1429, 2}};
        for (int[] interest : interests) {
            PledgeHouse h = new PledgeHouse();
            h.deposit(7, 9999);
            h.lend(7, interest[1]);
            h.changeRate(interest[0]);
            h.pass(1);
            due("interest of " + interest[0] + " on " + interest[1], h.debtOf(7) - interest[1], interest[2]);
        }
        clients(houseOfOneHour(), PledgeHouse::debtOf, 0);
        PledgeHouse compound = new PledgeHouse();
        compound.deposit(0, 9999);
        compound.lend(0, 1000);
        compound.pass(3);
        due("interest on interest", compound.debtOf(0), 1000 + 1 + 2 + 2);
        says("Clients are looked at.");
        PledgeHouse looked = Houses.borrowers(8, 800);
        looked.pass(1);
        clients(looked, PledgeHouse::hoursLeft, 6);
        due("calls", looked.calls(), 8);
        PledgeHouse one = Houses.borrowers(1, 799);
        one.pass(1);
        due("isCalled with just what is covered", one.isCalled(0), false);
        one.pass(1);
        due("isCalled with 1 more", one.isCalled(0), true);
        says("Then, by their numbers, each client who was called ahead of this hour, and is called yet, has one hour less; if "
                + "none is left, the client is sold out.");
        PledgeHouse last = Houses.borrowers(1, 800);
        last.changeGrace(1);
        due("the hour of the call is not counted", last.pass(1), 0);
        due("hoursLeft", last.hoursLeft(0), 1);
        due("the next hour is", last.pass(1), 1);
        PledgeHouse called = Houses.allCalled();
        due("an hour behind a call by a price is counted", called.pass(5), 0);
        clients(called, PledgeHouse::hoursLeft, 1);
        due("none is left", called.pass(1), 8);
        PledgeHouse paid = Houses.allCalled();
        paid.pass(5);
        paid.deposit(0, 13);
        due("one who is called no longer is not sold out", paid.pass(1), 7);
        due("and is called anew by more interest", paid.hoursLeft(0), 6);
    }

    private static PledgeHouse houseOfOneHour() {
        PledgeHouse h = new PledgeHouse();
        h.changeRate(100);
        h.pass(1);
        return h;
    }

    private static void sellingOut() {
        section("Selling out");
        says("When a client is sold out, first the pledged coins pay the debt, as far as they go.");
        PledgeHouse coins = Houses.lowered(815);
        coins.deposit(0, 14);
        coins.pass(6);
        due("coinsOf", coins.coinsOf(0), 0);
        // 801 are left by 14 coins, and one sale leaves 706 of 720.
        due("debtOf", coins.debtOf(0), 706);
        due("soldOf", coins.soldOf(0), 1);
        PledgeHouse enough = Houses.borrowers(1, 800);
        enough.deposit(0, 800);
        due("coins that pay all of it", enough.wouldSell(0), 0);
        says("Then umbrellas are sold one by one, as long as the debt is not covered, and there are any: of those of the client "
                + "the kind that comes first in the order of sales: 0 (at first) the greatest price, 1 the least cut, 2 the "
                + "greatest cut; of several kinds the lowest.");
        int[] sold = {0, 1, 2, 2, 10, 10};
        int[] debts = {800, 815, 816, 830, 950, 951};
        for (int debt = 0; debt < debts.length; debt++) {
            PledgeHouse h = Houses.lowered(debts[debt]);
            h.pass(6);
            due("umbrellas sold for a debt of " + debts[debt], h.soldOf(0), sold[debt]);
        }
        sellingOrder(0, 1, 2, 4, 5, 0, 3);
        sellingOrder(1, 4, 0, 2, 1, 3, 5);
        sellingOrder(2, 3, 5, 1, 0, 2, 4);
        PledgeHouse bare = new PledgeHouse();
        bare.deposit(0, 10);
        bare.lend(0, 10);
        bare.pass(7);
        kinds(bare, PledgeHouse::soldOf, 0);
        due("lost without any umbrellas", bare.lost(), 7);
        says("One brings the price times 100 less the slip (0 to 50, at first 5), divided by 100; that pays the debt, and what "
                + "is more than the debt comes to the pledged coins.");
        brings();
        says("If the debt is not covered in the end, it is lost: the debt is 0, and the client is barred.");
        PledgeHouse lost = Houses.lowered(951);
        lost.pass(6);
        due("lost", lost.lost(), 1);
        due("debtOf", lost.debtOf(0), 0);
        due("isBarred", lost.isBarred(0), true);
        PledgeHouse paid = Houses.lowered(950);
        paid.pass(6);
        due("lost", paid.lost(), 0);
        due("debtOf", paid.debtOf(0), 0);
        due("isBarred", paid.isBarred(0), false);
        PledgeHouse rest = Houses.lowered(815);
        rest.pass(6);
        due("debtOf one who is covered in the end", rest.debtOf(0), 720);
        due("isBarred", rest.isBarred(0), false);
        says("The client is called no longer.");
        for (PledgeHouse h : List.of(lost, paid, rest)) {
            due("isCalled", h.isCalled(0), false);
            refuses(h, NO_STATE, PledgeHouse::hoursLeft, 0);
        }
        lost.readmit(0);
        due("isCalled", lost.isCalled(0), false);
        // Hour 1 leaves 720 of 720, so hour 2 calls anew, and hour 3 is the first that counts.
        int[] soldOut = {1, 1, 2};
        for (int hours = 1; hours <= 3; hours++) {
            PledgeHouse anew = new PledgeHouse();
            anew.changeGrace(1);
            anew.setPrice(0, 500);
            anew.pledge(0, 0, 10);
            anew.lend(0, 814);
            anew.setPrice(0, 100);
            due("sold out in " + hours + " hours", anew.pass(hours), soldOut[hours - 1]);
        }
        due("another hour sells nothing more", rest.pass(100), 0);
    }

    /** Client 3 has one umbrella of each kind, and owes what is covered only by selling some of them, if at all. */
    private static void sellingOrder(int order, int... kinds) {
        boolean[] seen = new boolean[7];
        for (int debt = 640; debt <= 1160; debt += 5) {
            PledgeHouse h = oneOfEach(debt);
            for (int turn = 0; turn < order; turn++) {
                h.turnOrder();
            }
            int many = h.wouldSell(3);
            h.pass(6);
            for (int place = 0; place < 6; place++) {
                due("soldOf kind " + kinds[place] + " for " + debt, h.soldOf(kinds[place]), place < many ? 1 : 0);
            }
            kinds(h, (x, kind) -> x.piecesOf(4, kind), 1);
            seen[many] = true;
        }
        int cases = 0;
        for (boolean one : seen) {
            cases += one ? 1 : 0;
        }
        C.that("the debts tell too little of order " + order, cases >= 6);
    }

    private static PledgeHouse oneOfEach(int debt) {
        PledgeHouse h = new PledgeHouse();
        h.changeRate(0);
        h.changeSlip(0);
        for (int kind = 0; kind < 6; kind++) {
            h.setPrice(kind, 500);
            h.setCut(kind, 0);
            h.pledge(3, kind, 1);
            h.pledge(4, kind, 1);
        }
        h.lend(3, debt);
        int[] prices = {100, 300, 300, 50, 200, 200};
        int[] cuts = {10, 80, 10, 90, 0, 90};
        for (int kind = 0; kind < 6; kind++) {
            h.setPrice(kind, prices[kind]);
            h.setCut(kind, cuts[kind]);
        }
        return h;
    }

    private static void brings() {
        // Price, slip, and what an umbrella brings.
        int[][] sales = {{100, 5, 95}, {100, 0, 100}, {100, 50, 50}, {1, 0, 1}, {1, 1, 0}, {1, 50, 0}, {3, 50, 1}, {99, 1, 98},
            {500, 50, 250}, {500, 0, 500}, {199, 5, 189}, {2, 50, 1}};
        for (int[] sale : sales) {
            PledgeHouse h = new PledgeHouse();
            h.changeRate(0);
            h.changeSlip(sale[1]);
            h.deposit(0, 9999);
            h.setPrice(1, 500);
            h.setCut(1, 0);
            h.setPrice(0, sale[0]);
            h.pledge(0, 1, 50);
            h.pledge(0, 1, 49);
            h.lend(0, 9999);
            h.lend(0, 9999);
            h.pledge(0, 0, 1);
            h.setPrice(1, 1);
            h.setCut(1, 90);
            h.pass(6);
            int others = 99 * ((100 - sale[1]) / 100);
            due("what a sale at " + sale[0] + " less " + sale[1] + " brings", h.repaid() - 9999 - others, sale[2]);
            due("nothing is left", h.coinsOf(0), 0);
        }
        int[][] surpluses = {{474, 1, 0}, {475, 0, 0}, {476, 0, 1}};
        for (int[] surplus : surpluses) {
            PledgeHouse h = new PledgeHouse();
            h.changeRate(0);
            h.setPrice(0, 500);
            h.setCut(0, 0);
            h.pledge(0, 0, 1);
            h.lend(0, surplus[0]);
            h.setCut(0, 10);
            h.pass(6);
            due("what is more than a debt of " + surplus[0], h.coinsOf(0), surplus[1]);
            due("debtOf", h.debtOf(0), 0);
            due("lost", h.lost(), surplus[2]);
        }
    }
}
