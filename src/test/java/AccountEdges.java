/** Promises 52 to 62: accounts. */
final class AccountEdges extends Edges {
    @Override
    void tell() {
        hours();
        debts();
        lent();
        interest();
        repaid();
        lost();
        calls();
        soldOut();
        usedShare();
        digest();
    }

    private static void hours() {
        promise(52);
        says("Returns the hours so far.");
        PledgeHouse h = new PledgeHouse();
        due("none", h.hours(), 0);
        h.pass(1);
        due("one", h.hours(), 1);
        h.pass(100);
        due("a hundred more", h.hours(), 101);
        refuses(h, NO_ARGUMENT, x -> x.pass(101));
        due("behind a refusal", h.hours(), 101);
        h.undo();
        due("behind an undo", h.hours(), 1);
        noEdge("Returns the hours.");
    }

    private static void debts() {
        promise(53);
        says("Returns the debts of all clients, client by client.");
        due("none", new PledgeHouse().debtsByClients(), 0);
        due("all of them", Houses.borrowers(8, 800).debtsByClients(), 6400);
        for (int client = 0; client < 8; client++) {
            PledgeHouse one = new PledgeHouse();
            one.deposit(client, 9999);
            one.lend(client, 9999);
            due("of one client", one.debtsByClients(), 9999);
        }
        due("the greatest one", Houses.greatestDebt().debtsByClients(), 396999);
        due("none, as all are lost", Houses.allBarred().debtsByClients(), 0);
        noEdge("Returns the coins.");

        promise(54);
        noEdge("Returns the debts of all clients, by what was lent, and the interest, less what was paid back, and lost.");
        says("Returns the coins, as many as by debtsByClients().");
        PledgeHouse[] houses = {new PledgeHouse(), Houses.borrowers(8, 800), Houses.greatestDebt(), Houses.full(),
            Houses.allBarred(), Houses.allCalled(), Houses.busy(), Houses.lossMaker()};
        for (PledgeHouse h : houses) {
            due("debtsByAccount", h.debtsByAccount(), h.debtsByClients());
            h.pass(100);
            due("debtsByAccount behind 100 hours", h.debtsByAccount(), h.debtsByClients());
        }
    }

    private static void lent() {
        promise(55);
        says("Returns the coins that were lent so far.");
        due("none", new PledgeHouse().lent(), 0);
        PledgeHouse h = Houses.borrowers(1, 800);
        due("all that is owed", h.lent(), 800);
        h.payBack(0, 800);
        due("also what was paid back", h.lent(), 800);
        refuses(h, NO_STATE, x -> x.lend(0, 801));
        h.lend(0, 1);
        due("one more", h.lent(), 801);
        h.pass(1);
        due("not the interest", h.lent(), 801);
        due("also what was lost", Houses.allBarred().lent(), 6400);
        due("the most that one can owe", Houses.greatestDebt().lent(), 396999);
        noEdge("Returns the coins.");
    }

    private static void interest() {
        promise(56);
        says("Returns the interest so far.");
        due("none", new PledgeHouse().interest(), 0);
        PledgeHouse h = Houses.borrowers(8, 400);
        due("none without an hour", h.interest(), 0);
        h.pass(1);
        due("of all clients", h.interest(), 8);
        h.pass(99);
        due("of all hours", h.interest(), 800);
        h.payBack(0, 500);
        due("also what was paid back", h.interest(), 800);
        h.changeRate(0);
        h.pass(1);
        due("none without a rate", h.interest(), 800);
        due("also what was lost", Houses.allBarred().interest(), 8);
        PledgeHouse most = Houses.greatestDebt();
        most.changeRate(100);
        most.pass(1);
        due("of the greatest debt", most.interest(), 3970);
        noEdge("Returns the coins.");
    }

    private static void repaid() {
        promise(57);
        says("Returns the coins that came back so far: paid back, out of pledged coins, and by sales.");
        due("none", new PledgeHouse().repaid(), 0);
        PledgeHouse h = Houses.borrowers(1, 800);
        h.payBack(0, 300);
        due("paid back", h.repaid(), 300);
        h.payBack(0, 9999);
        due("no more than was owed", h.repaid(), 800);
        h.deposit(0, 100);
        h.withdraw(0, 100);
        due("no coins that are pledged, or given back", h.repaid(), 800);
        PledgeHouse coins = new PledgeHouse();
        coins.deposit(0, 100);
        coins.lend(0, 100);
        coins.pass(7);
        due("out of pledged coins", coins.repaid(), 100);
        PledgeHouse sales = Houses.borrowers(1, 800);
        sales.pass(7);
        due("by a sale", sales.repaid(), 95);
        PledgeHouse more = new PledgeHouse();
        more.pledge(0, 0, 1);
        more.lend(0, 80);
        more.pass(7);
        due("of a sale just what was owed", more.repaid(), 87);
        due("none by sales that bring nothing", Houses.allBarred().repaid(), 0);
        noEdge("Returns the coins.");
    }

    private static void lost() {
        promise(58);
        says("Returns the coins that were lost so far.");
        due("none", new PledgeHouse().lost(), 0);
        due("none, as all is covered in the end", soldAt(950).lost(), 0);
        due("the last coin", soldAt(951).lost(), 1);
        PledgeHouse all = Houses.allBarred();
        due("all that 8 clients owed", all.lost(), 8 * 801);
        all.readmit(0);
        all.deposit(0, 1);
        all.lend(0, 1);
        // The debt is 3 by then, and the coin pays 1 of them.
        all.pass(2);
        due("two more", all.lost(), 8 * 801 + 2);
        noEdge("Returns the coins.");
    }

    private static PledgeHouse soldAt(int debt) {
        PledgeHouse h = Houses.lowered(debt);
        h.pass(6);
        return h;
    }

    private static void calls() {
        promise(59);
        says("Returns how many calls there were so far.");
        due("none", new PledgeHouse().calls(), 0);
        due("none, as all is just covered", Houses.borrowers(8, 800).calls(), 0);
        PledgeHouse h = Houses.allCalled();
        due("one for each client", h.calls(), 8);
        h.setPrice(0, 98);
        h.pass(5);
        due("no more for those who are called already", h.calls(), 8);
        h.setPrice(0, 101);
        due("no fewer for those who are covered again", h.calls(), 8);
        h.setPrice(0, 100);
        due("one more for each client", h.calls(), 16);
        h.pass(6);
        due("no more by selling out", h.calls(), 16);
        h.undo();
        h.undo();
        due("as it was", h.calls(), 8);
        noEdge("Returns the calls.");
    }

    private static void soldOut() {
        promise(60);
        says("Returns how many clients were sold out so far.");
        due("none", new PledgeHouse().soldOut(), 0);
        PledgeHouse h = Houses.allCalled();
        h.pass(5);
        due("none with one hour left", h.soldOut(), 0);
        h.pass(1);
        due("all of them", h.soldOut(), 8);
        due("those who had nothing to be sold, too", withoutUmbrellas().soldOut(), 1);
        PledgeHouse again = Houses.borrowers(1, 800);
        again.changeRate(100);
        again.changeGrace(1);
        again.pass(5);
        due("one client twice", again.soldOut(), 2);
        noEdge("Returns how often.");
    }

    private static PledgeHouse withoutUmbrellas() {
        PledgeHouse h = new PledgeHouse();
        h.deposit(7, 1);
        h.lend(7, 1);
        h.pass(7);
        return h;
    }

    private static void usedShare() {
        promise(61);
        noEdge("Returns which share of all cover is used.");
        says("Returns the debts as a double, divided by what all pledges cover; 0.0 if that is 0.");
        due("no cover", new PledgeHouse().usedShare(), 0.0);
        due("cover without debts", Houses.richest().usedShare(), 0.0);
        due("all of it", Houses.borrowers(8, 800).usedShare(), 1.0);
        due("more than all of it", Houses.allCalled().usedShare(), 6400.0 / 6336.0);
        due("a part that no binary fraction tells", Houses.borrowers(1, 1).usedShare(), 1.0 / 800.0);
        PledgeHouse two = Houses.borrowers(1, 100);
        two.deposit(7, 2200);
        due("the pledges of those without debts, too", two.usedShare(), 1.0 / 30.0);
        PledgeHouse bare = new PledgeHouse();
        bare.setPrice(0, 10);
        bare.pledge(0, 0, 1);
        bare.lend(0, 8);
        bare.setPrice(0, 1);
        due("debts without cover", bare.usedShare(), 0.0);
        bare.setCut(0, 0);
        due("debts with the least cover", bare.usedShare(), 8.0);
        // Two clients with 80 hundredths of a coin each: that is 0 for each of them, and would be 1 for both.
        bare.setCut(0, 20);
        bare.pledge(1, 0, 1);
        due("cover that is nothing for each client", bare.usedShare(), 0.0);
        due("the greatest debt", Houses.greatestDebt().usedShare(), 1.0);
    }

    private static void digest() {
        promise(62);
        noEdge("Computes a hash of the whole state.");
        says("The hash starts at 4397.");
        due("a new house", new PledgeHouse().digest(), PlainDigest.of(new PledgeHouse(), "", 0, 0));
        says("For each value v of the following list, in order, the hash becomes 31 * hash + v, in long arithmetic with "
                + "overflow.");
        // The two lengths, 1 and 2, come ahead of the codes: 31 * (31 * (r + 2) + x) + y, with 31 * (r + 1) + x given.
        long one = Houses.typed("x").digest();
        due("one value more", Houses.typed("xy").digest(), 31 * (one + 31) + 'y');
        long full = Houses.typed("~".repeat(59)).digest();
        long shift = 1;
        for (int turn = 0; turn < 59; turn++) {
            shift *= 31;
        }
        due("values behind an overflow", Houses.typed("~".repeat(60)).digest(), 31 * (full + shift) + '~');
        says("The values are: for each kind priceOf, cutOf, pledgedOf, soldOf; for each client piecesOf each kind, coinsOf, "
                + "debtOf, worthOf, coverOf, roomOf, 1 if called, otherwise 0, the hours left, 0 if not called, 1 if barred, "
                + "otherwise 0, rankOf, fallToCallByTrying, then fallToCallByHalving, both with 1 more, 0 if they throw, "
                + "wouldSell, wouldLose; for each place riskyBySorting, then riskyByTaking; calledNow, rate, grace, slip, "
                + "order, calledIfFallen of 10, then of 50; hours, debtsByClients, debtsByAccount, lent, interest, repaid, "
                + "lost, calls, soldOut, savedStates; the bits of usedShare (as Double.doubleToLongBits); for each slot 1 if "
                + "it has a snapshot, otherwise 0; the length of the buffer and each of its character codes.");
        PledgeHouse[] houses = {new PledgeHouse(), Houses.borrowers(8, 800), Houses.greatestDebt(), Houses.full(),
            Houses.allBarred(), Houses.allCalled(), Houses.busy(), Houses.lossMaker(), Houses.richest()};
        for (PledgeHouse h : houses) {
            due("digest", h.digest(), PlainDigest.of(h, "", 0, 0));
            h.keep(1);
            due("digest with a snapshot in slot 1", h.digest(), PlainDigest.of(h, "", 0, 1));
            h.append('!');
            due("digest with one character", h.digest(), PlainDigest.of(h, "!", 0, 1));
        }
        PledgeHouse last = Houses.allCalled();
        last.pass(5);
        due("digest with one hour left", last.digest(), PlainDigest.of(last, "", 0, 0));
        PledgeHouse slot = new PledgeHouse();
        slot.keep(0);
        due("digest with a snapshot in slot 0", slot.digest(), PlainDigest.of(slot, "", 1, 0));
        Houses.type(slot, "~".repeat(60));
        due("digest with a full buffer", slot.digest(), PlainDigest.of(slot, "~".repeat(60), 1, 0));
        slot.clearBuffer();
        due("digest with a buffer that is cleared", slot.digest(), PlainDigest.of(slot, "", 1, 0));
        shares();
        noEdge("Returns the hash.");
    }

    /** Shares from 1 / 396999 to 8 * 396999 / 1, since the bits are reckoned by the class itself. */
    private static void shares() {
        PledgeHouse least = Houses.richest();
        least.lend(0, 1);
        due("digest with the least share", least.digest(), PlainDigest.of(least, "", 0, 0));
        for (int debt = 1; debt <= 800; debt += 3) {
            PledgeHouse h = Houses.borrowers(1, debt);
            due("digest with a debt of " + debt, h.digest(), PlainDigest.of(h, "", 0, 0));
            h.setPrice(0, 1);
            due("digest with a debt of " + debt, h.digest(), PlainDigest.of(h, "", 0, 0));
        }
        PledgeHouse most = new PledgeHouse();
        most.setPrice(0, 500);
        most.pledge(0, 0, 1);
        most.lend(0, 400);
        most.setPrice(0, 2);
        due("usedShare", most.usedShare(), 400.0);
        due("digest with a share that is far more than all", most.digest(), PlainDigest.of(most, "", 0, 0));
    }
}
