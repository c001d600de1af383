/** Promises 7 to 11: coins. */
final class CoinEdges extends Edges {
    @Override
    void tell() {
        deposit();
        withdraw();
        lend();
        payBack();
        readmit();
    }

    private static void deposit() {
        promise(7);
        noEdge("A client brings coins as a pledge.");
        says("Undoable.");
        undoable(Houses.full(), h -> h.deposit(7, 9999));
        undoable(Houses.allCalled(), h -> h.deposit(7, 8));
        says("- `client`: 0 to 7");
        PledgeHouse h = new PledgeHouse();
        for (int client = 0; client < 8; client++) {
            h.deposit(client, client + 1);
        }
        clients(h, PledgeHouse::coinsOf, 1, 2, 3, 4, 5, 6, 7, 8);
        says("- `coins`: 1 to 9999");
        takes(1, 9999, PledgeHouse::new, (x, v) -> x.deposit(7, v), (x, v) -> x.coinsOf(7), (x, v) -> v);
        says("Returns the coins that the client has pledged then.");
        due("the first ones", new PledgeHouse().deposit(0, 9999), 9999);
        due("more of them", Houses.full().deposit(7, 9999), 10099);
        says("Throws `IndexOutOfBoundsException` if there is no such client");
        noSuchClient(Houses.busy(), (x, client) -> x.deposit(client, 1));
        says("Throws `IllegalArgumentException` if coins is out of range");
        refusesBeside(1, 9999, Houses.busy(), NO_ARGUMENT, (x, coins) -> x.deposit(0, coins));
        refusesBeside(1, 9999, Houses.busy(), NO_ARGUMENT, (x, coins) -> x.deposit(7, coins));
        says("Throws `IllegalStateException` if they would be more than 99999");
        PledgeHouse most = Houses.richest();
        due("coinsOf", most.coinsOf(0), 99999);
        refuses(most, NO_STATE, (x, coins) -> x.deposit(0, coins), 1, 9999);
        due("of another client", most.deposit(1, 9999), 9999);
        most.withdraw(0, 9998);
        refuses(most, NO_STATE, x -> x.deposit(0, 9999));
        due("one less", most.deposit(0, 9998), 99999);
        most.withdraw(0, 1);
        refuses(most, NO_STATE, x -> x.deposit(0, 2));
        due("the last one", most.deposit(0, 1), 99999);
    }

    private static void withdraw() {
        promise(8);
        noEdge("A client gets pledged coins back.");
        says("Undoable.");
        undoable(Houses.full(), h -> h.withdraw(7, 100));
        says("- `client`: 0 to 7");
        PledgeHouse h = Houses.full();
        for (int client = 0; client < 8; client++) {
            h.withdraw(client, client + 1);
        }
        clients(h, PledgeHouse::coinsOf, 99, 98, 97, 96, 95, 94, 93, 92);
        says("- `coins`: 1 to 9999");
        takes(1, 9999, CoinEdges::withCoins, (x, v) -> x.withdraw(7, v), (x, v) -> x.coinsOf(7), (x, v) -> 9999 - v);
        says("Returns the coins that the client has pledged then.");
        PledgeHouse some = Houses.full();
        due("some", some.withdraw(7, 99), 1);
        due("the last one", some.withdraw(7, 1), 0);
        says("Throws `IndexOutOfBoundsException` if there is no such client");
        noSuchClient(Houses.busy(), (x, client) -> x.withdraw(client, 1));
        says("Throws `IllegalArgumentException` if coins is out of range");
        refusesBeside(1, 9999, Houses.richest(), NO_ARGUMENT, (x, coins) -> x.withdraw(0, coins));
        says("Throws `IllegalStateException` if there are not so many, or the debt would not be covered");
        PledgeHouse few = Houses.full();
        refuses(few, NO_STATE, (x, coins) -> x.withdraw(4, coins), 101, 9999);
        due("just so many", few.withdraw(4, 100), 0);
        refuses(few, NO_STATE, (x, coins) -> x.withdraw(4, coins), 1, 9999);
        PledgeHouse owing = withCoins();
        owing.lend(7, 4000);
        refuses(owing, NO_STATE, (x, coins) -> x.withdraw(7, coins), 6000, 9999);
        due("a debt that is just covered then", owing.withdraw(7, 5999), 4000);
        refuses(owing, NO_STATE, x -> x.withdraw(7, 1));
        owing.pledge(7, 0, 49);
        due("a debt that umbrellas cover by themselves is 3920", owing.withdraw(7, 3920), 80);
        refuses(owing, NO_STATE, x -> x.withdraw(7, 1));
        owing.payBack(7, 9999);
        due("all of them without debt", owing.withdraw(7, 80), 0);
        PledgeHouse called = Houses.allCalled();
        called.deposit(0, 7);
        due("isCalled", called.isCalled(0), true);
        refuses(called, NO_STATE, (x, coins) -> x.withdraw(0, coins), 1, 7);
    }

    private static PledgeHouse withCoins() {
        PledgeHouse h = new PledgeHouse();
        h.deposit(7, 9999);
        return h;
    }

    private static void lend() {
        promise(9);
        noEdge("Lends coins to a client.");
        says("Undoable.");
        undoable(Houses.full(), h -> h.lend(7, 2490));
        says("- `client`: 0 to 7");
        PledgeHouse h = Houses.full();
        for (int client = 0; client < 8; client++) {
            h.lend(client, client + 1);
        }
        clients(h, PledgeHouse::debtOf, 11, 12, 13, 14, 15, 16, 17, 18);
        says("- `coins`: 1 to 9999");
        takes(1, 9999, CoinEdges::withCoins, (x, v) -> x.lend(7, v), (x, v) -> x.debtOf(7), (x, v) -> v);
        says("Returns the debt then.");
        due("the first debt", withCoins().lend(7, 9999), 9999);
        due("more of it", Houses.full().lend(7, 2490), 2500);
        says("Throws `IndexOutOfBoundsException` if there is no such client");
        noSuchClient(Houses.busy(), (x, client) -> x.lend(client, 1));
        says("Throws `IllegalArgumentException` if coins is out of range");
        refusesBeside(1, 9999, Houses.richest(), NO_ARGUMENT, (x, coins) -> x.lend(0, coins));
        says("Throws `IllegalStateException` if the client is barred, or the debt would not be covered");
        PledgeHouse barred = Houses.allBarred();
        barred.deposit(7, 9999);
        barred.pledge(7, 1, 50);
        refuses(barred, NO_STATE, (x, coins) -> x.lend(7, coins), 1, 9999);
        barred.readmit(7);
        due("one who is barred no longer", barred.lend(7, 1), 1);
        PledgeHouse poor = new PledgeHouse();
        refuses(poor, NO_STATE, (x, coins) -> x.lend(0, coins), 1, 9999);
        poor.pledge(0, 0, 10);
        refuses(poor, NO_STATE, (x, coins) -> x.lend(0, coins), 801, 9999);
        due("as much as is covered", poor.lend(0, 800), 800);
        refuses(poor, NO_STATE, x -> x.lend(0, 1));
        PledgeHouse half = Houses.borrowers(1, 400);
        refuses(half, NO_STATE, x -> x.lend(0, 401));
        due("the rest of what is covered", half.lend(0, 400), 800);
        refuses(Houses.allCalled(), NO_STATE, x -> x.lend(7, 1));
    }

    private static void payBack() {
        promise(10);
        noEdge("A client pays back.");
        says("Undoable.");
        undoable(Houses.full(), h -> h.payBack(7, 9999));
        undoable(Houses.allCalled(), h -> h.payBack(7, 8));
        says("- `client`: 0 to 7");
        PledgeHouse h = Houses.full();
        for (int client = 0; client < 8; client++) {
            h.payBack(client, client + 1);
        }
        clients(h, PledgeHouse::debtOf, 9, 8, 7, 6, 5, 4, 3, 2);
        says("- `coins`: 1 to 9999");
        takes(1, 9999, CoinEdges::withDebt, (x, v) -> x.payBack(7, v), (x, v) -> x.debtOf(7), (x, v) -> 9999 - v);
        says("Returns the coins that are taken: not more than the debt.");
        for (int coins : new int[] {1, 9, 10, 11, 9999}) {
            PledgeHouse some = Houses.full();
            due("payBack of " + coins, some.payBack(7, coins), Math.min(coins, 10));
            due("debtOf", some.debtOf(7), Math.max(10 - coins, 0));
            due("repaid", some.repaid(), Math.min(coins, 10));
        }
        says("Throws `IndexOutOfBoundsException` if there is no such client");
        noSuchClient(Houses.busy(), (x, client) -> x.payBack(client, 1));
        says("Throws `IllegalArgumentException` if coins is out of range");
        refusesBeside(1, 9999, Houses.full(), NO_ARGUMENT, (x, coins) -> x.payBack(0, coins));
        says("Throws `IllegalStateException` if the client has no debt");
        PledgeHouse none = new PledgeHouse();
        refuses(none, NO_STATE, (x, coins) -> x.payBack(0, coins), 1, 9999);
        PledgeHouse paid = Houses.full();
        paid.payBack(0, 10);
        refuses(paid, NO_STATE, (x, coins) -> x.payBack(0, coins), 1, 9999);
        due("another client", paid.payBack(1, 1), 1);
        refuses(Houses.allBarred(), NO_STATE, x -> x.payBack(0, 1));
        PledgeHouse last = Houses.full();
        last.payBack(0, 9);
        due("a debt of 1", last.payBack(0, 1), 1);
    }

    private static PledgeHouse withDebt() {
        PledgeHouse h = withCoins();
        h.lend(7, 9999);
        return h;
    }

    private static void readmit() {
        promise(11);
        noEdge("Lets a client who is barred borrow again.");
        says("Undoable.");
        undoable(Houses.allBarred(), h -> h.readmit(7));
        says("- `client`: 0 to 7");
        for (int client = 0; client < 8; client++) {
            PledgeHouse h = Houses.allBarred();
            h.readmit(client);
            long[] barred = {1, 1, 1, 1, 1, 1, 1, 1};
            barred[client] = 0;
            clients(h, (x, other) -> x.isBarred(other) ? 1 : 0, barred);
        }
        says("Throws `IndexOutOfBoundsException` if there is no such client");
        noSuchClient(Houses.allBarred(), PledgeHouse::readmit);
        says("Throws `IllegalStateException` if the client is not barred");
        refuses(new PledgeHouse(), NO_STATE, PledgeHouse::readmit, 0, 7);
        PledgeHouse again = Houses.allBarred();
        again.readmit(7);
        refuses(again, NO_STATE, PledgeHouse::readmit, 7);
        again.readmit(0);
        refuses(again, NO_STATE, PledgeHouse::readmit, 0, 7);
        refuses(Houses.allCalled(), NO_STATE, PledgeHouse::readmit, 0, 7);
    }
}
