import java.util.function.Consumer;

/** What the document says ahead of its promises of terms, risk and exceptions. */
final class TermEdges extends Edges {
    @Override
    void tell() {
        whatItIs();
        terms();
        kindsAndClients();
        risk();
        exceptions();
        headings();
    }

    private static void whatItIs() {
        section("PledgeHouse");
        section("What it is");
        says("Borrowed umbrellas as pledges, a house of margins: umbrellas of kinds with prices and cuts, clients who pledge "
                + "them and coins, debts that are covered, interest by the hour, calls that leave some hours, clients who are "
                + "sold out in one of three orders, what is lost, clients by risk, told in two ways, falls of prices that "
                + "would call a client, told in two ways, debts told in two ways, what sales would bring, orders as texts with "
                + "errors by place, accounts, snapshots and undo.");
        due("two houses know nothing of each other", houseBesideAnother().digest(), new PledgeHouse().digest());
        says("An object is used for at most 512 calls after it has been made; what later calls answer is free.");
        PledgeHouse h = new PledgeHouse();
        for (int call = 1; call <= 511; call++) {
            h.pass(100);
        }
        due("the last of 512 calls", h.hours(), 51100);
        PledgeHouse changed = new PledgeHouse();
        for (int call = 1; call <= 512; call++) {
            due("the answer to call " + call, changed.changeRate(call % 101), call == 1 ? 10 : (call - 1) % 101);
        }
        largeSums();
    }

    /** As much is lent and paid in 512 calls as there can be. */
    private static void largeSums() {
        PledgeHouse h = Houses.richest();
        h.changeRate(100);
        h.changeGrace(24);
        for (int turn = 0; turn < 45; turn++) {
            int room = h.roomOf(0);
            if (room > 0) {
                h.lend(0, Math.min(9999, room));
            }
        }
        for (int turn = 0; turn < 50; turn++) {
            h.pass(100);
            if (h.isBarred(0)) {
                h.readmit(0);
            }
            if (h.piecesOf(0, turn % 6) <= 49) {
                h.pledge(0, turn % 6, 50);
            }
            int room = h.roomOf(0);
            if (room > 0) {
                h.lend(0, Math.min(9999, room));
            }
        }
        due("the account of large sums", h.debtsByAccount(), h.debtsByClients());
    }

    private static PledgeHouse houseBesideAnother() {
        PledgeHouse h = new PledgeHouse();
        PledgeHouse other = Houses.busy();
        other.keep(0);
        other.append('h');
        return h;
    }

    private static void terms() {
        section("Terms");
        says("What is owed is covered, or called.");
        for (int price = 1; price <= 200; price++) {
            PledgeHouse h = Houses.borrowers(1, 800);
            h.setPrice(0, price);
            due("isCalled at a price of " + price, h.isCalled(0), price < 100);
        }
        says("All numbers are integers, but for a share; divisions are rounded down, unless something else is told.");
        PledgeHouse h = new PledgeHouse();
        h.setPrice(0, 1);
        h.setCut(0, 1);
        h.pledge(0, 0, 1);
        due("99 hundredths of a coin", h.coverOf(0), 0);
        h.setCut(0, 0);
        due("100 of them", h.coverOf(0), 1);
        h.setPrice(1, 199);
        h.fall(1);
        due("197 and a hundredth of a coin", h.priceOf(1), 197);
        due("sales of 99 hundredths of a coin", Houses.allBarred().repaid(), 0);
        due("a share", Houses.borrowers(1, 1).usedShare(), 0.00125);
    }

    private static void kindsAndClients() {
        section("Kinds, clients");
        says("There are 6 kinds of umbrellas, numbered from 0, each with a price of 1 to 500, at first 100, and a cut of 0 to 90 "
                + "percent, at first 20.");
        PledgeHouse h = new PledgeHouse();
        kinds(h, PledgeHouse::priceOf, 100);
        kinds(h, PledgeHouse::cutOf, 20);
        noSuchKind(h, PledgeHouse::priceOf);
        noSuchKind(h, PledgeHouse::cutOf);
        refusesBeside(1, 500, h, NO_ARGUMENT, (x, price) -> x.setPrice(5, price));
        refusesBeside(0, 90, h, NO_ARGUMENT, (x, cut) -> x.setCut(5, cut));
        says("There are 8 clients, numbered from 0, each with umbrellas of each kind, 0 to 99, and coins that are pledged, and a "
                + "debt; all are 0 at first.");
        for (int kind = 0; kind < 6; kind++) {
            int of = kind;
            clients(h, (x, client) -> x.piecesOf(client, of), 0);
        }
        clients(h, PledgeHouse::coinsOf, 0);
        clients(h, PledgeHouse::debtOf, 0);
        noSuchClient(h, PledgeHouse::debtOf);
        PledgeHouse most = Houses.richest();
        kinds(most, (x, kind) -> x.piecesOf(0, kind), 99);
        refuses(most, NO_STATE, (x, kind) -> x.pledge(0, kind, 1), 0, 1, 2, 3, 4, 5);
        refuses(h, NO_STATE, (x, kind) -> x.release(0, kind, 1), 0, 1, 2, 3, 4, 5);
        says("A client can be barred.");
        clients(h, (x, client) -> x.isBarred(client) ? 1 : 0, 0);
        clients(Houses.allBarred(), (x, client) -> x.isBarred(client) ? 1 : 0, 1);
        covers();
    }

    private static void covers() {
        says("The pledges of a client are worth the prices of all umbrellas, and the coins.");
        due("nothing", new PledgeHouse().worthOf(0), 0);
        due("all that there can be", Houses.richest().worthOf(0), 396999);
        due("5 of each of 6 kinds, and 100 coins", Houses.full().worthOf(7), 3100);
        says("They cover the coins, and the sum, over all kinds, of the umbrellas times the price times 100 less the cut, "
                + "divided by 100 as a whole.");
        PledgeHouse h = new PledgeHouse();
        for (int kind = 0; kind < 6; kind++) {
            h.setPrice(kind, 1);
            h.setCut(kind, 50);
            h.pledge(0, kind, 1);
        }
        due("6 halves of a coin", h.coverOf(0), 3);
        h.setCut(5, 51);
        due("a hundredth less", h.coverOf(0), 2);
        h.deposit(0, 7);
        due("7 coins more", h.coverOf(0), 9);
        h.setCut(5, 0);
        due("3 coins and a half, and 7 coins", h.coverOf(0), 10);
        says("The debt is covered, if it is not more than that.");
        PledgeHouse debt = new PledgeHouse();
        debt.deposit(0, 10);
        refuses(debt, NO_STATE, x -> x.lend(0, 11));
        due("just that", debt.lend(0, 10), 10);
        due("isCalled", debt.isCalled(0), false);
        debt.pass(1);
        due("isCalled with 1 more", debt.isCalled(0), true);
        due("no debt is covered by nothing", new PledgeHouse().isCalled(0), false);
    }

    private static void risk() {
        section("Risk");
        says("Of two clients with debts the one has the greater risk whose cover, divided by the debt, is less (not rounded); a "
                + "client without debt has less risk than all with one; of equal ones the one with the lower number has the "
                + "greater risk.");
        // 2000 / 667 is less than 1000 / 333 by a little, and both are more than 1000 / 334.
        rank(new int[] {1000, 2000}, new int[] {333, 667}, 1, 0, 2, 3, 4, 5, 6, 7);
        rank(new int[] {2000, 1000}, new int[] {667, 333}, 0, 1, 2, 3, 4, 5, 6, 7);
        rank(new int[] {1000, 2000}, new int[] {334, 667}, 0, 1, 2, 3, 4, 5, 6, 7);
        // Equal shares of other sizes.
        rank(new int[] {3000, 1000, 2000}, new int[] {1500, 500, 1000}, 0, 1, 2, 3, 4, 5, 6, 7);
        rank(new int[] {9998, 9999}, new int[] {9997, 9998}, 1, 0, 2, 3, 4, 5, 6, 7);
        // Without a debt: the last ones, whatever they have.
        rank(new int[] {0, 0, 1, 9999, 0, 0, 0, 9999}, new int[] {0, 0, 0, 1, 0, 0, 0, 1}, 3, 7, 0, 1, 2, 4, 5, 6);
        rank(new int[] {0, 0, 0, 0, 0, 0, 0, 9999}, new int[] {0, 0, 0, 0, 0, 0, 0, 1}, 7, 0, 1, 2, 3, 4, 5, 6);
        PledgeHouse bare = new PledgeHouse();
        bare.setPrice(0, 10);
        bare.setCut(0, 0);
        for (int client = 1; client < 4; client++) {
            bare.pledge(client, 0, 1);
            bare.lend(client, 11 - 2 * client);
        }
        bare.setPrice(0, 1);
        bare.setCut(0, 90);
        places(bare, 1, 2, 3, 0, 4, 5, 6, 7);
        // 396999 * 5410 is more than an int can hold, 396999 * 5409 is not.
        PledgeHouse large = Houses.greatestDebt();
        large.deposit(1, 5410);
        large.lend(1, 5409);
        places(large, 0, 1, 2, 3, 4, 5, 6, 7);
    }

    private static void rank(int[] coins, int[] debts, int... order) {
        PledgeHouse h = new PledgeHouse();
        for (int client = 0; client < coins.length; client++) {
            if (coins[client] > 0) {
                h.deposit(client, coins[client]);
            }
            if (debts[client] > 0) {
                h.lend(client, debts[client]);
            }
        }
        places(h, order);
    }

    private static void places(PledgeHouse h, int... order) {
        for (int place = 0; place < 8; place++) {
            due("riskyBySorting(" + place + ")", h.riskyBySorting(place), order[place]);
            due("riskyByTaking(" + place + ")", h.riskyByTaking(place), order[place]);
            due("rankOf(" + order[place] + ")", h.rankOf(order[place]), place);
        }
    }

    private static void exceptions() {
        section("Exceptions");
        says("A call that throws an exception changes nothing (the buffer stays as it is, too).");
        String text = "p0=1;c0=90;h100;+0:5*1;-0:5*1;l1=1;b1=1;l0=9999;l0=9999";
        PledgeHouse refused = withHistory(text);
        PledgeHouse left = withHistory(text);
        refuses(refused, NO_STATE, PledgeHouse::follow);
        eachRefused(refused);
        due("clearBuffer", refused.clearBuffer(), left.clearBuffer());
        while (left.savedStates() > 0) {
            refused.undo();
            left.undo();
            due("digest behind undo", refused.digest(), left.digest());
        }
        for (int slot = 0; slot <= 1; slot++) {
            refused.goBack(slot);
            left.goBack(slot);
            due("digest behind goBack", refused.digest(), left.digest());
        }
        says("If several exceptions apply, the one that is named first in the throws clause is thrown.");
        firstNamed();
    }

    /** Snapshots in both slots, 6 states, a buffer, and calls that go on; client 0 has the most coins, client 7 no debt. */
    private static PledgeHouse withHistory(String text) {
        PledgeHouse h = Houses.allCalled();
        h.payBack(7, 800);
        h.pledge(7, 3, 50);
        h.pledge(7, 3, 49);
        for (int turn = 0; turn < 10; turn++) {
            h.deposit(0, 9999);
        }
        h.deposit(0, 9);
        h.keep(0);
        h.deposit(1, 9);
        h.pledge(1, 5, 3);
        h.keep(1);
        h.pass(1);
        h.changeSlip(9);
        h.turnOrder();
        Houses.type(h, text);
        return h;
    }

    private static void eachRefused(PledgeHouse h) {
        refuses(h, NO_ARGUMENT, x -> x.setPrice(0, 501));
        refuses(h, NO_ARGUMENT, x -> x.setCut(0, 91));
        refuses(h, NO_ARGUMENT, x -> x.fall(91));
        refuses(h, NO_STATE, x -> x.pledge(7, 3, 1));
        refuses(h, NO_STATE, x -> x.release(7, 2, 1));
        refuses(h, NO_STATE, x -> x.release(2, 0, 1));
        refuses(h, NO_STATE, x -> x.deposit(0, 1));
        refuses(h, NO_STATE, x -> x.withdraw(7, 1));
        refuses(h, NO_STATE, x -> x.lend(2, 1));
        refuses(h, NO_STATE, x -> x.payBack(7, 1));
        refuses(h, NO_STATE, x -> x.readmit(0));
        refuses(h, NO_ARGUMENT, x -> x.pass(101));
        refuses(h, NO_ARGUMENT, x -> x.changeRate(101));
        refuses(h, NO_ARGUMENT, x -> x.changeGrace(25));
        refuses(h, NO_ARGUMENT, x -> x.changeSlip(51));
        refuses(h, NO_ARGUMENT, x -> x.append(127));
        refuses(h, NO_ARGUMENT, x -> x.keep(2));
        refuses(h, NO_ARGUMENT, x -> x.goBack(2));
        refuses(h, NO_PLACE, x -> x.priceOf(6));
        refuses(h, NO_PLACE, x -> x.debtOf(8));
        refuses(h, NO_STATE, x -> x.hoursLeft(7));
        refuses(h, NO_STATE, x -> x.fallToCallByTrying(7));
        refuses(h, NO_STATE, x -> x.fallToCallByHalving(7));
        refuses(h, NO_STATE, x -> x.hoursToCall(7));
        refuses(h, NO_ARGUMENT, x -> x.calledIfFallen(91));
    }

    private static void firstNamed() {
        PledgeHouse none = new PledgeHouse();
        refuses(none, NO_PLACE, (x, kind) -> x.setPrice(kind, 0), -1, 6);
        refuses(none, NO_PLACE, (x, kind) -> x.setPrice(kind, 501), -1, 6);
        refuses(none, NO_PLACE, (x, kind) -> x.setCut(kind, -1), -1, 6);
        refuses(none, NO_PLACE, (x, kind) -> x.setCut(kind, 91), -1, 6);
        for (int many : new int[] {0, 51}) {
            refuses(none, NO_PLACE, (x, client) -> x.pledge(client, 0, many), -1, 8);
            refuses(none, NO_PLACE, (x, kind) -> x.pledge(0, kind, many), -1, 6);
            refuses(none, NO_PLACE, (x, client) -> x.release(client, 0, many), -1, 8);
            refuses(none, NO_PLACE, (x, kind) -> x.release(0, kind, many), -1, 6);
        }
        for (int coins : new int[] {0, 10000}) {
            refuses(none, NO_PLACE, (x, client) -> x.deposit(client, coins), -1, 8);
            refuses(none, NO_PLACE, (x, client) -> x.withdraw(client, coins), -1, 8);
            refuses(none, NO_PLACE, (x, client) -> x.lend(client, coins), -1, 8);
            refuses(none, NO_PLACE, (x, client) -> x.payBack(client, coins), -1, 8);
        }
        argumentAheadOfState();
    }

    /** Each argument is out of range where the state would not allow it either. */
    private static void argumentAheadOfState() {
        PledgeHouse most = Houses.richest();
        refuses(most, NO_ARGUMENT, (x, many) -> x.pledge(0, 0, many), 51);
        refuses(most, NO_ARGUMENT, (x, coins) -> x.deposit(0, coins), 10000);
        PledgeHouse none = new PledgeHouse();
        refuses(none, NO_ARGUMENT, (x, many) -> x.release(0, 0, many), 51);
        refuses(none, NO_ARGUMENT, (x, coins) -> x.withdraw(0, coins), 10000);
        refuses(none, NO_ARGUMENT, (x, coins) -> x.lend(0, coins), 10000);
        refuses(none, NO_ARGUMENT, (x, coins) -> x.payBack(0, coins), 0, 10000);
        refuses(Houses.allBarred(), NO_ARGUMENT, (x, coins) -> x.lend(0, coins), 0, 10000);
        refuses(none, NO_ARGUMENT, PledgeHouse::goBack, -1, 2);
        refuses(Houses.typed("x".repeat(60)), NO_ARGUMENT, PledgeHouse::append, 32, 127);
        refuses(Houses.typed("l0=1;x"), NO_ARGUMENT, PledgeHouse::follow);
        refuses(Houses.typed("l0=1;"), NO_ARGUMENT, PledgeHouse::follow);
        refuses(Houses.typed("-0:0*1;-0:0*51"), NO_ARGUMENT, PledgeHouse::follow);
    }

    private static void headings() {
        noEdge("Ahead of the calls `setPrice`, `setCut`, `fall`, `pledge`, `release` the interface says: ---- prices, pledges.",
                "Ahead of the calls `deposit`, `withdraw`, `lend`, `payBack`, `readmit` the interface says: ---- coins.",
                "Ahead of the calls `pass`, `changeRate`, `changeGrace`, `changeSlip`, `turnOrder` the interface says: ---- "
                        + "hours, rules.",
                "Ahead of the calls `append`, `clearBuffer`, `firstError`, `follow` the interface says: ---- texts.",
                "Ahead of the calls `keep`, `goBack`, `undo`, `savedStates` the interface says: ---- snapshots, undo.");
        says("Ahead of the calls `priceOf`, `cutOf`, `pledgedOf`, `soldOf` the interface says: ---- kinds as they are; nothing "
                + "is changed.");
        for (int kind = 0; kind < 6; kind++) {
            int of = kind;
            changesNothing(h -> h.priceOf(of), h -> h.cutOf(of), h -> h.pledgedOf(of), h -> h.soldOf(of));
        }
        says("Ahead of the calls `piecesOf`, `coinsOf`, `debtOf`, `worthOf`, `coverOf`, `roomOf`, `isCalled`, `hoursLeft`, "
                + "`isBarred`, `rankOf`, `riskyBySorting`, `riskyByTaking`, `calledNow` the interface says: ---- clients as they "
                + "are; nothing is changed.");
        for (int client = 0; client < 8; client++) {
            int of = client;
            changesNothing(h -> h.piecesOf(of, 5), h -> h.coinsOf(of), h -> h.debtOf(of), h -> h.worthOf(of),
                    h -> h.coverOf(of), h -> h.roomOf(of), h -> h.isCalled(of), h -> h.isBarred(of), h -> h.rankOf(of));
            changesNothing(h -> h.riskyBySorting(of), h -> h.riskyByTaking(of), PledgeHouse::calledNow);
            changesNothing(h -> due("hoursLeft", !h.isCalled(of) || h.hoursLeft(of) > 0, true));
        }
        says("Ahead of the calls `rate`, `grace`, `slip`, `order` the interface says: ---- rules as they are; nothing is "
                + "changed.");
        changesNothing(PledgeHouse::rate, PledgeHouse::grace, PledgeHouse::slip, PledgeHouse::order);
        says("Ahead of the calls `fallToCallByTrying`, `fallToCallByHalving`, `hoursToCall`, `wouldSell`, `wouldLose`, "
                + "`calledIfFallen` the interface says: ---- what would be; nothing is changed.");
        for (int client = 0; client < 8; client++) {
            int of = client;
            changesNothing(h -> h.fallToCallByTrying(of), h -> h.fallToCallByHalving(of), h -> h.hoursToCall(of),
                    h -> h.wouldSell(of), h -> h.wouldLose(of), h -> h.calledIfFallen(1 + 10 * of));
        }
        says("Ahead of the calls `hours`, `debtsByClients`, `debtsByAccount`, `lent`, `interest`, `repaid`, `lost`, `calls`, "
                + "`soldOut`, `usedShare`, `digest` the interface says: ---- accounts; nothing is changed.");
        changesNothing(PledgeHouse::hours, PledgeHouse::debtsByClients, PledgeHouse::debtsByAccount, PledgeHouse::lent,
                PledgeHouse::interest, PledgeHouse::repaid, PledgeHouse::lost, PledgeHouse::calls, PledgeHouse::soldOut,
                PledgeHouse::usedShare, PledgeHouse::digest);
    }

    /** In a house where all are called, and in one where nobody is; the state from before is looked at, too. */
    @SafeVarargs
    private static void changesNothing(Consumer<PledgeHouse>... questions) {
        for (Consumer<PledgeHouse> question : questions) {
            PledgeHouse called = Houses.allCalled();
            PledgeHouse calm = Houses.borrowers(8, 400);
            long calledBefore = called.digest();
            long calmBefore = calm.digest();
            question.accept(called);
            question.accept(calm);
            due("digest", called.digest(), calledBefore);
            due("digest", calm.digest(), calmBefore);
            called.undo();
            due("calledNow behind undo", called.calledNow(), 0);
        }
    }
}
