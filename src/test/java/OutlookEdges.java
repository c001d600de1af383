/** Promises 46 to 51: what would be. */
final class OutlookEdges extends Edges {
    @Override
    void tell() {
        fallToCallByTrying();
        fallToCallByHalving();
        hoursToCall();
        wouldSell();
        wouldLose();
        calledIfFallen();
    }

    private static void fallToCallByTrying() {
        promise(46);
        noEdge("Tells how great a fall of all prices calls a client, by trying each percentage from 1 on.");
        callingFalls(PledgeHouse::fallToCallByTrying, "Returns the least percentage, 1 to 100, with which the debt would "
                + "not be covered, if each price was what is left of it, rounded down; 0 if the client is called.");
    }

    private static void fallToCallByHalving() {
        promise(47);
        noEdge("Tells the same by halving: between a percentage that leaves the debt covered, and one that does not, the "
                + "one in the middle is looked at.");
        callingFalls(PledgeHouse::fallToCallByHalving, "Returns the percentage, the same as by fallToCallByTrying().");
    }

    private static void callingFalls(Answer fall, String answer) {
        says("- `client`: 0 to 7");
        clients(Houses.borrowersBySteps(80), fall, 1, 11, 21, 31, 41, 51, 61, 71);
        says(answer);
        // What is left of 100 by p percent covers 8 * (100 - p).
        for (int debt = 1; debt <= 800; debt++) {
            due("a debt of " + debt, fall.of(Houses.borrowers(1, debt), 0), 101 - (debt + 7) / 8);
        }
        roundedPrices(fall);
        PledgeHouse all = Houses.allCalled();
        clients(all, fall, 0);
        all.pass(5);
        clients(all, fall, 0);
        PledgeHouse called = Houses.borrowers(1, 800);
        called.pass(1);
        due("one who is called by interest", fall.of(called, 0), 0);
        PledgeHouse coins = Houses.borrowers(1, 800);
        coins.deposit(0, 799);
        due("a debt that coins cover all but 1", fall.of(coins, 0), 100);
        says("Throws `IndexOutOfBoundsException` if there is no such client");
        noSuchClient(Houses.busy(), fall::of);
        says("Throws `IllegalStateException` if the debt would be covered even then");
        coins.deposit(0, 1);
        refuses(coins, NO_STATE, fall::of, 0);
        coins.deposit(0, 9999);
        refuses(coins, NO_STATE, fall::of, 0);
        refuses(new PledgeHouse(), NO_STATE, fall::of, 0, 7);
        refuses(Houses.allBarred(), NO_STATE, fall::of, 0, 7);
        PledgeHouse bare = new PledgeHouse();
        bare.deposit(0, 1);
        bare.lend(0, 1);
        refuses(bare, NO_STATE, fall::of, 0);
    }

    private static void roundedPrices(Answer fall) {
        // 80 umbrellas without a cut: a price of 3 leaves 2 by 1 to 33 percent, 1 by 34 to 66, and nothing by more.
        int[][] debts = {{3, 240, 1}, {3, 161, 1}, {3, 160, 34}, {3, 81, 34}, {3, 80, 67}, {3, 1, 67}, {2, 80, 51}, {1, 80, 1},
            {1, 1, 1}, {500, 1, 100}};
        for (int[] debt : debts) {
            PledgeHouse h = new PledgeHouse();
            h.setPrice(5, debt[0]);
            h.setCut(5, 0);
            h.pledge(0, 5, 50);
            h.pledge(0, 5, 30);
            h.lend(0, debt[1]);
            due("a debt of " + debt[1] + " at a price of " + debt[0], fall.of(h, 0), debt[2]);
        }
    }

    private static void hoursToCall() {
        promise(48);
        noEdge("Tells in how many hours a client is called by interest, if nothing else is done.");
        says("- `client`: 0 to 7");
        clients(Houses.borrowersBySteps(1), PledgeHouse::hoursToCall, 1, 2, 3, 4, 5, 6, 7, 8);
        says("Returns the hours, 1 to 999; 0 if the client is called.");
        // A debt below 1000 becomes more by 1 an hour.
        due("the first hour", withCoins(1).hoursToCall(0), 1);
        due("the second hour", withCoins(2).hoursToCall(0), 2);
        due("the last hour but one", withCoins(998).hoursToCall(0), 998);
        due("the last hour", withCoins(999).hoursToCall(0), 999);
        PledgeHouse quick = withCoins(9999);
        quick.lend(0, 9998);
        due("at once", quick.hoursToCall(0), 1);
        PledgeHouse called = Houses.allCalled();
        clients(called, PledgeHouse::hoursToCall, 0);
        called.pass(5);
        clients(called, PledgeHouse::hoursToCall, 0);
        called.changeRate(0);
        clients(called, PledgeHouse::hoursToCall, 0);
        PledgeHouse checked = Houses.borrowers(1, 650);
        checked.changeRate(37);
        int hours = checked.hoursToCall(0);
        checked.pass(hours - 1);
        due("not called an hour ahead", checked.isCalled(0), false);
        checked.pass(1);
        due("called then", checked.isCalled(0), true);
        says("Throws `IndexOutOfBoundsException` if there is no such client");
        noSuchClient(Houses.busy(), PledgeHouse::hoursToCall);
        says("Throws `IllegalStateException` if it is not within 999 hours");
        refuses(withCoins(1000), NO_STATE, PledgeHouse::hoursToCall, 0);
        refuses(new PledgeHouse(), NO_STATE, PledgeHouse::hoursToCall, 0, 7);
        refuses(Houses.allBarred(), NO_STATE, PledgeHouse::hoursToCall, 0, 7);
        PledgeHouse free = Houses.borrowers(1, 800);
        free.changeRate(0);
        refuses(free, NO_STATE, PledgeHouse::hoursToCall, 0);
        free.changeRate(1);
        due("the least rate", free.hoursToCall(0), 1);
    }

    /** Client 0 owes 1, and so many coins cover it. */
    private static PledgeHouse withCoins(int coins) {
        PledgeHouse h = new PledgeHouse();
        h.deposit(0, coins);
        h.lend(0, 1);
        return h;
    }

    /** Client 0 owes 396999; 594 umbrellas are worth 1 each, and 99999 coins are there. */
    private static PledgeHouse greatestLoss() {
        PledgeHouse h = Houses.greatestDebt();
        for (int kind = 0; kind < 6; kind++) {
            h.setPrice(kind, 1);
        }
        return h;
    }

    private static void wouldSell() {
        promise(49);
        noEdge("Tells how many umbrellas would be sold, if the client was sold out now.");
        says("- `client`: 0 to 7");
        clients(bySales(), PledgeHouse::wouldSell, 0, 1, 2, 3, 4, 5, 6, 7);
        says("Returns the umbrellas.");
        clients(new PledgeHouse(), PledgeHouse::wouldSell, 0);
        clients(Houses.borrowers(8, 800), PledgeHouse::wouldSell, 0);
        due("all of them", greatestLoss().wouldSell(0), 594);
        PledgeHouse none = new PledgeHouse();
        none.deposit(0, 1);
        none.lend(0, 1);
        none.pass(1);
        due("one who has none", none.wouldSell(0), 0);
        // One sale leaves 720 of 720 that are covered, or 721.
        due("one sale is just enough", Houses.lowered(815).wouldSell(0), 1);
        due("one sale is not enough by 1", Houses.lowered(816).wouldSell(0), 2);
        PledgeHouse part = new PledgeHouse();
        part.setPrice(0, 1);
        part.setCut(0, 0);
        part.pledge(0, 0, 1);
        part.lend(0, 1);
        part.setCut(0, 1);
        due("99 hundredths of a coin cover nothing", part.wouldSell(0), 1);
        says("Throws `IndexOutOfBoundsException` if there is no such client");
        noSuchClient(Houses.busy(), PledgeHouse::wouldSell);
    }

    /** Each sale brings 95 in place of 80 that are covered, so that client c needs c of them. */
    private static PledgeHouse bySales() {
        PledgeHouse h = new PledgeHouse();
        h.setPrice(0, 500);
        for (int client = 0; client < 8; client++) {
            h.pledge(client, 0, 10);
            h.lend(client, 800 + 15 * client);
        }
        h.setPrice(0, 100);
        return h;
    }

    private static void wouldLose() {
        promise(50);
        noEdge("Tells how many coins would be lost, if the client was sold out now.");
        says("- `client`: 0 to 7");
        PledgeHouse h = new PledgeHouse();
        h.setPrice(0, 500);
        for (int client = 0; client < 8; client++) {
            h.pledge(client, 0, 10);
            h.lend(client, 950 + client);
        }
        h.setPrice(0, 100);
        clients(h, PledgeHouse::wouldLose, 0, 1, 2, 3, 4, 5, 6, 7);
        says("Returns the coins.");
        clients(new PledgeHouse(), PledgeHouse::wouldLose, 0);
        clients(Houses.borrowers(8, 800), PledgeHouse::wouldLose, 0);
        due("the most", greatestLoss().wouldLose(0), 297000);
        due("nothing, as all sales pay just the debt", Houses.lowered(950).wouldLose(0), 0);
        due("the last coin", Houses.lowered(951).wouldLose(0), 1);
        PledgeHouse coins = Houses.lowered(951);
        coins.deposit(0, 1);
        due("nothing, as a pledged coin pays the rest", coins.wouldLose(0), 0);
        says("Throws `IndexOutOfBoundsException` if there is no such client");
        noSuchClient(Houses.busy(), PledgeHouse::wouldLose);
    }

    private static void calledIfFallen() {
        promise(51);
        says("Tells how many clients would be called, if all prices fell by a percentage as by fall().");
        for (int percent = 1; percent <= 90; percent++) {
            PledgeHouse h = Houses.busy();
            int would = h.calledIfFallen(percent);
            h.fall(percent);
            due("calledNow behind a fall by " + percent, h.calledNow(), would);
        }
        PledgeHouse least = new PledgeHouse();
        least.setPrice(0, 1);
        least.setPrice(1, 9);
        least.setCut(0, 0);
        least.setCut(1, 0);
        least.pledge(0, 0, 50);
        least.lend(0, 50);
        least.pledge(1, 1, 50);
        least.lend(1, 50);
        for (int percent : new int[] {1, 50, 89, 90}) {
            due("none, as a price is 1 at least", least.calledIfFallen(percent), 0);
        }
        least.lend(1, 1);
        due("one who owes more than that", least.calledIfFallen(90), 1);
        says("- `percent`: 1 to 90");
        PledgeHouse h = Houses.borrowersBySteps(80);
        for (int percent = 1; percent <= 90; percent++) {
            // What is left covers 8 * (100 - percent); client c owes 80 * (10 - c).
            due("calledIfFallen(" + percent + ")", h.calledIfFallen(percent), Math.min(8, (percent + 9) / 10));
        }
        says("Returns the clients whose debts would not be covered then.");
        due("none without debts", new PledgeHouse().calledIfFallen(90), 0);
        due("all of them", Houses.borrowers(8, 800).calledIfFallen(1), 8);
        due("those who are called already", Houses.allCalled().calledIfFallen(1), 8);
        PledgeHouse edge = Houses.borrowers(2, 792);
        edge.lend(1, 1);
        due("one who owes 1 more than is covered, not one who owes just that", edge.calledIfFallen(1), 1);
        due("none is called by the question", edge.calledNow(), 0);
        says("Throws `IllegalArgumentException` if percent is out of range");
        refusesBeside(1, 90, Houses.busy(), NO_ARGUMENT, PledgeHouse::calledIfFallen);
        refuses(Houses.busy(), NO_ARGUMENT, PledgeHouse::calledIfFallen, 100);
    }
}
