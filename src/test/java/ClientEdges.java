/** Promises 29 to 41: clients as they are. */
final class ClientEdges extends Edges {
    @Override
    void tell() {
        piecesOf();
        coinsOf();
        debtOf();
        worthOf();
        coverOf();
        roomOf();
        isCalled();
        hoursLeft();
        isBarred();
        rankOf();
        riskyBySorting();
        riskyByTaking();
        calledNow();
    }

    private static void piecesOf() {
        promise(29);
        noEdge("Returns how many umbrellas of a kind a client has pledged.");
        says("- `client`: 0 to 7");
        PledgeHouse h = new PledgeHouse();
        for (int client = 0; client < 8; client++) {
            h.pledge(client, 5, 10 + client);
        }
        clients(h, (x, client) -> x.piecesOf(client, 5), 10, 11, 12, 13, 14, 15, 16, 17);
        clients(h, (x, client) -> x.piecesOf(client, 0), 0);
        says("- `kind`: 0 to 5");
        PledgeHouse k = new PledgeHouse();
        for (int kind = 0; kind < 6; kind++) {
            k.pledge(7, kind, 10 + kind);
        }
        kinds(k, (x, kind) -> x.piecesOf(7, kind), 10, 11, 12, 13, 14, 15);
        kinds(k, (x, kind) -> x.piecesOf(6, kind), 0);
        says("Returns the umbrellas.");
        kinds(new PledgeHouse(), (x, kind) -> x.piecesOf(0, kind), 0);
        kinds(Houses.richest(), (x, kind) -> x.piecesOf(0, kind), 99);
        says("Throws `IndexOutOfBoundsException` if there is no such client or kind");
        noSuchClient(Houses.busy(), (x, client) -> x.piecesOf(client, 0));
        noSuchClient(Houses.busy(), (x, client) -> x.piecesOf(client, 5));
        noSuchKind(Houses.busy(), (x, kind) -> x.piecesOf(0, kind));
        noSuchKind(Houses.busy(), (x, kind) -> x.piecesOf(7, kind));
        refuses(Houses.busy(), NO_PLACE, (x, wrong) -> x.piecesOf(wrong, wrong), -1, 8);
    }

    private static void coinsOf() {
        promise(30);
        noEdge("Returns the coins that a client has pledged.");
        says("- `client`: 0 to 7");
        PledgeHouse h = new PledgeHouse();
        for (int client = 0; client < 8; client++) {
            h.deposit(client, 9 * client + 1);
        }
        clients(h, PledgeHouse::coinsOf, 1, 10, 19, 28, 37, 46, 55, 64);
        says("Returns the coins.");
        clients(new PledgeHouse(), PledgeHouse::coinsOf, 0);
        clients(Houses.richest(), PledgeHouse::coinsOf, 99999, 0, 0, 0, 0, 0, 0, 0);
        says("Throws `IndexOutOfBoundsException` if there is no such client");
        noSuchClient(Houses.busy(), PledgeHouse::coinsOf);
    }

    private static void debtOf() {
        promise(31);
        noEdge("Returns the debt of a client.");
        says("- `client`: 0 to 7");
        PledgeHouse h = Houses.full();
        for (int client = 0; client < 8; client++) {
            h.lend(client, 9 * client + 1);
        }
        clients(h, PledgeHouse::debtOf, 11, 20, 29, 38, 47, 56, 65, 74);
        says("Returns the coins.");
        clients(new PledgeHouse(), PledgeHouse::debtOf, 0);
        clients(Houses.allBarred(), PledgeHouse::debtOf, 0);
        clients(Houses.greatestDebt(), PledgeHouse::debtOf, 396999, 0, 0, 0, 0, 0, 0, 0);
        says("Throws `IndexOutOfBoundsException` if there is no such client");
        noSuchClient(Houses.busy(), PledgeHouse::debtOf);
    }

    private static void worthOf() {
        promise(32);
        noEdge("Returns what the pledges of a client are worth.");
        says("- `client`: 0 to 7");
        PledgeHouse h = new PledgeHouse();
        for (int client = 0; client < 8; client++) {
            h.pledge(client, client % 6, client + 1);
            h.deposit(client, 1);
        }
        clients(h, PledgeHouse::worthOf, 101, 201, 301, 401, 501, 601, 701, 801);
        says("Returns the coins, without cuts.");
        clients(new PledgeHouse(), PledgeHouse::worthOf, 0);
        PledgeHouse rich = Houses.richest();
        clients(rich, PledgeHouse::worthOf, 396999, 0, 0, 0, 0, 0, 0, 0);
        for (int kind = 0; kind < 6; kind++) {
            rich.setCut(kind, 90);
        }
        due("at the greatest cuts", rich.worthOf(0), 396999);
        for (int kind = 0; kind < 6; kind++) {
            rich.setPrice(kind, 1);
        }
        due("at the least prices", rich.worthOf(0), 594 + 99999);
        says("Throws `IndexOutOfBoundsException` if there is no such client");
        noSuchClient(Houses.busy(), PledgeHouse::worthOf);
    }

    private static void coverOf() {
        promise(33);
        noEdge("Returns what the pledges of a client cover.");
        says("- `client`: 0 to 7");
        PledgeHouse h = new PledgeHouse();
        for (int client = 0; client < 8; client++) {
            h.pledge(client, client % 6, client + 1);
            h.deposit(client, 1);
        }
        clients(h, PledgeHouse::coverOf, 81, 161, 241, 321, 401, 481, 561, 641);
        says("Returns the coins.");
        clients(new PledgeHouse(), PledgeHouse::coverOf, 0);
        PledgeHouse rich = Houses.richest();
        clients(rich, PledgeHouse::coverOf, 396999, 0, 0, 0, 0, 0, 0, 0);
        for (int kind = 0; kind < 6; kind++) {
            rich.setCut(kind, 90);
        }
        due("at the greatest cuts", rich.coverOf(0), 29700 + 99999);
        for (int kind = 0; kind < 6; kind++) {
            rich.setPrice(kind, 1);
        }
        due("at the least prices", rich.coverOf(0), 59 + 99999);
        says("Throws `IndexOutOfBoundsException` if there is no such client");
        noSuchClient(Houses.busy(), PledgeHouse::coverOf);
    }

    private static void roomOf() {
        promise(34);
        noEdge("Returns how much a client could borrow yet.");
        says("- `client`: 0 to 7");
        PledgeHouse h = new PledgeHouse();
        for (int client = 0; client < 8; client++) {
            h.deposit(client, 100);
            h.lend(client, 10 * client + 1);
        }
        clients(h, PledgeHouse::roomOf, 99, 89, 79, 69, 59, 49, 39, 29);
        says("Returns what is covered less the debt, 0 if that is more, or the client is barred.");
        clients(new PledgeHouse(), PledgeHouse::roomOf, 0);
        due("all that is covered", Houses.richest().roomOf(0), 396999);
        due("the last coin", Houses.borrowers(1, 799).roomOf(0), 1);
        due("nothing", Houses.borrowers(1, 800).roomOf(0), 0);
        PledgeHouse more = Houses.borrowers(1, 800);
        more.pass(1);
        due("a debt of 1 more than is covered", more.roomOf(0), 0);
        more.setPrice(0, 1);
        due("a debt of much more than is covered", more.roomOf(0), 0);
        PledgeHouse barred = Houses.allBarred();
        barred.deposit(0, 9999);
        barred.deposit(1, 9999);
        barred.readmit(1);
        clients(barred, PledgeHouse::roomOf, 0, 9999, 0, 0, 0, 0, 0, 0);
        says("Throws `IndexOutOfBoundsException` if there is no such client");
        noSuchClient(Houses.busy(), PledgeHouse::roomOf);
    }

    private static void isCalled() {
        promise(35);
        noEdge("Tells whether a client is called.");
        says("- `client`: 0 to 7");
        for (int client = 0; client < 8; client++) {
            PledgeHouse h = Houses.borrowers(8, 700);
            h.lend(client, 100);
            h.setPrice(0, 99);
            long[] called = new long[8];
            called[client] = 1;
            clients(h, (x, other) -> x.isCalled(other) ? 1 : 0, called);
        }
        says("Returns true if so.");
        clients(new PledgeHouse(), (x, client) -> x.isCalled(client) ? 1 : 0, 0);
        PledgeHouse all = Houses.allCalled();
        clients(all, (x, client) -> x.isCalled(client) ? 1 : 0, 1);
        all.pass(5);
        clients(all, (x, client) -> x.isCalled(client) ? 1 : 0, 1);
        all.pass(1);
        clients(all, (x, client) -> x.isCalled(client) ? 1 : 0, 0);
        due("a debt that is just covered", Houses.borrowers(1, 800).isCalled(0), false);
        says("Throws `IndexOutOfBoundsException` if there is no such client");
        noSuchClient(Houses.busy(), PledgeHouse::isCalled);
    }

    private static void hoursLeft() {
        promise(36);
        noEdge("Returns how many hours are left to a client who is called.");
        says("- `client`: 0 to 7");
        PledgeHouse h = Houses.borrowersBySteps(1);
        h.changeGrace(24);
        // Each debt becomes more by 1 an hour, so client 0 is called by the first hour, and client 7 by the last.
        h.pass(8);
        clients(h, PledgeHouse::hoursLeft, 17, 18, 19, 20, 21, 22, 23, 24);
        says("Returns the hours, 1 or more.");
        PledgeHouse all = Houses.allCalled();
        for (int hours = 6; hours >= 1; hours--) {
            clients(all, PledgeHouse::hoursLeft, hours);
            all.pass(1);
        }
        clients(all, (x, client) -> x.isCalled(client) ? 1 : 0, 0);
        PledgeHouse most = Houses.borrowers(1, 800);
        most.changeGrace(24);
        most.setPrice(0, 1);
        due("the most", most.hoursLeft(0), 24);
        most.pass(23);
        due("the last one", most.hoursLeft(0), 1);
        says("Throws `IndexOutOfBoundsException` if there is no such client");
        noSuchClient(Houses.allCalled(), PledgeHouse::hoursLeft);
        says("Throws `IllegalStateException` if the client is not called");
        refuses(new PledgeHouse(), NO_STATE, PledgeHouse::hoursLeft, 0, 7);
        refuses(Houses.borrowers(1, 800), NO_STATE, PledgeHouse::hoursLeft, 0);
        refuses(Houses.allBarred(), NO_STATE, PledgeHouse::hoursLeft, 0, 7);
        PledgeHouse paid = Houses.allCalled();
        paid.payBack(7, 8);
        refuses(paid, NO_STATE, PledgeHouse::hoursLeft, 7);
        due("of another client", paid.hoursLeft(0), 6);
        paid.pass(6);
        refuses(paid, NO_STATE, PledgeHouse::hoursLeft, 0);
    }

    private static void isBarred() {
        promise(37);
        noEdge("Tells whether a client is barred.");
        says("- `client`: 0 to 7");
        for (int client = 0; client < 8; client++) {
            PledgeHouse h = new PledgeHouse();
            h.deposit(client, 1);
            h.lend(client, 1);
            h.pass(7);
            long[] barred = new long[8];
            barred[client] = 1;
            clients(h, (x, other) -> x.isBarred(other) ? 1 : 0, barred);
        }
        says("Returns true if so.");
        clients(new PledgeHouse(), (x, client) -> x.isBarred(client) ? 1 : 0, 0);
        clients(Houses.allCalled(), (x, client) -> x.isBarred(client) ? 1 : 0, 0);
        PledgeHouse all = Houses.allBarred();
        clients(all, (x, client) -> x.isBarred(client) ? 1 : 0, 1);
        all.pledge(0, 0, 50);
        all.pass(100);
        due("one who brings pledges is barred yet", all.isBarred(0), true);
        says("Throws `IndexOutOfBoundsException` if there is no such client");
        noSuchClient(Houses.busy(), PledgeHouse::isBarred);
    }

    /** Client c owes c of 100; so the last one has the greatest risk, and client 0 owes nothing. */
    private static PledgeHouse byDebts() {
        PledgeHouse h = new PledgeHouse();
        for (int client = 0; client < 8; client++) {
            h.deposit(client, 100);
            if (client > 0) {
                h.lend(client, client);
            }
        }
        return h;
    }

    private static void rankOf() {
        promise(38);
        noEdge("Returns the place of a client in the order of risk.");
        says("- `client`: 0 to 7");
        clients(byDebts(), PledgeHouse::rankOf, 7, 6, 5, 4, 3, 2, 1, 0);
        says("Returns 0 for the greatest risk.");
        clients(new PledgeHouse(), PledgeHouse::rankOf, 0, 1, 2, 3, 4, 5, 6, 7);
        clients(Houses.borrowers(8, 800), PledgeHouse::rankOf, 0, 1, 2, 3, 4, 5, 6, 7);
        for (int client = 0; client < 8; client++) {
            PledgeHouse one = new PledgeHouse();
            one.deposit(client, 9999);
            one.lend(client, 1);
            due("the only one with a debt", one.rankOf(client), 0);
        }
        says("Throws `IndexOutOfBoundsException` if there is no such client");
        noSuchClient(Houses.busy(), PledgeHouse::rankOf);
    }

    private static void riskyBySorting() {
        promise(39);
        noEdge("Returns a client by the order of risk, as all are put in order.");
        says("- `place`: 0 to 7: 0 for the greatest risk");
        clients(byDebts(), PledgeHouse::riskyBySorting, 7, 6, 5, 4, 3, 2, 1, 0);
        says("Returns the client.");
        clients(new PledgeHouse(), PledgeHouse::riskyBySorting, 0, 1, 2, 3, 4, 5, 6, 7);
        clients(Houses.borrowers(8, 800), PledgeHouse::riskyBySorting, 0, 1, 2, 3, 4, 5, 6, 7);
        clients(Houses.borrowers(1, 800), PledgeHouse::riskyBySorting, 0, 1, 2, 3, 4, 5, 6, 7);
        says("Throws `IndexOutOfBoundsException` if there is no such place");
        noSuchClient(Houses.busy(), PledgeHouse::riskyBySorting);
    }

    private static void riskyByTaking() {
        promise(40);
        noEdge("Returns a client by the order of risk, as the riskiest of those that are left is taken again and again.");
        says("- `place`: 0 to 7: 0 for the greatest risk");
        clients(byDebts(), PledgeHouse::riskyByTaking, 7, 6, 5, 4, 3, 2, 1, 0);
        says("Returns the client, the same as by riskyBySorting().");
        clients(new PledgeHouse(), PledgeHouse::riskyByTaking, 0, 1, 2, 3, 4, 5, 6, 7);
        clients(Houses.borrowers(8, 800), PledgeHouse::riskyByTaking, 0, 1, 2, 3, 4, 5, 6, 7);
        PledgeHouse busy = Houses.busy();
        for (int place = 0; place < 8; place++) {
            due("place " + place, busy.riskyByTaking(place), busy.riskyBySorting(place));
            due("rankOf", busy.rankOf(busy.riskyByTaking(place)), place);
        }
        says("Throws `IndexOutOfBoundsException` if there is no such place");
        noSuchClient(Houses.busy(), PledgeHouse::riskyByTaking);
    }

    private static void calledNow() {
        promise(41);
        noEdge("Returns how many clients are called.");
        says("Returns 0 to 8.");
        due("none", new PledgeHouse().calledNow(), 0);
        PledgeHouse last = Houses.allCalled();
        last.pass(5);
        due("all of those with one hour left", last.calledNow(), 8);
        PledgeHouse h = Houses.allCalled();
        for (int client = 0; client < 8; client++) {
            due("calledNow", h.calledNow(), 8 - client);
            h.payBack(client, 8);
        }
        due("none of those who are covered again", h.calledNow(), 0);
        due("none of those who are barred", Houses.allBarred().calledNow(), 0);
    }
}
