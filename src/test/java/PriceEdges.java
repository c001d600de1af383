/** Promises 1 to 6: a new object, prices and pledges. */
final class PriceEdges extends Edges {
    @Override
    void tell() {
        newObject();
        setPrice();
        setCut();
        fall();
        pledge();
        release();
    }

    private static void newObject() {
        promise(1);
        says("Creates a house without pledges and debts, with empty slots and an empty buffer.");
        PledgeHouse other = Houses.busy();
        other.keep(0);
        other.append('p');
        PledgeHouse h = new PledgeHouse();
        for (int kind = 0; kind < 6; kind++) {
            int of = kind;
            due("pledgedOf", h.pledgedOf(kind), 0);
            clients(h, (house, client) -> house.piecesOf(client, of), 0);
        }
        clients(h, PledgeHouse::coinsOf, 0);
        clients(h, PledgeHouse::debtOf, 0);
        refuses(h, NO_STATE, PledgeHouse::goBack, 0, 1);
        refuses(h, NO_STATE, PledgeHouse::undo);
        due("firstError", h.firstError(), 0);
        due("clearBuffer", h.clearBuffer(), 0);
    }

    private static void setPrice() {
        promise(2);
        noEdge("Changes the price of a kind.");
        says("Undoable.");
        undoable(Houses.borrowers(8, 800), h -> h.setPrice(0, 99));
        undoable(new PledgeHouse(), h -> h.setPrice(5, 100));
        says("- `kind`: 0 to 5");
        PledgeHouse h = new PledgeHouse();
        for (int kind = 0; kind < 6; kind++) {
            h.setPrice(kind, 11 * kind + 1);
        }
        kinds(h, PledgeHouse::priceOf, 1, 12, 23, 34, 45, 56);
        says("- `price`: 1 to 500");
        takes(1, 500, PledgeHouse::new, (x, v) -> x.setPrice(0, v), (x, v) -> x.priceOf(0), (x, v) -> v);
        says("Returns how many clients are called by that.");
        PledgeHouse all = Houses.borrowers(8, 800);
        due("none at the same price", all.setPrice(0, 100), 0);
        due("none by another kind", all.setPrice(1, 1), 0);
        due("all of them", all.setPrice(0, 99), 8);
        due("none of those who are called already", all.setPrice(0, 98), 0);
        due("none if all are covered again", all.setPrice(0, 100), 0);
        PledgeHouse edge = Houses.borrowers(2, 792);
        edge.lend(1, 1);
        due("one who owes 1 more than is covered, not one who owes just that", edge.setPrice(0, 99), 1);
        says("Throws `IndexOutOfBoundsException` if there is no such kind");
        noSuchKind(Houses.busy(), (x, kind) -> x.setPrice(kind, 1));
        says("Throws `IllegalArgumentException` if price is out of range");
        refusesBeside(1, 500, Houses.busy(), NO_ARGUMENT, (x, price) -> x.setPrice(0, price));
        refusesBeside(1, 500, Houses.busy(), NO_ARGUMENT, (x, price) -> x.setPrice(5, price));
    }

    private static void setCut() {
        promise(3);
        noEdge("Changes the cut of a kind.");
        says("Undoable.");
        undoable(Houses.borrowers(8, 800), h -> h.setCut(0, 21));
        undoable(new PledgeHouse(), h -> h.setCut(5, 20));
        says("- `kind`: 0 to 5");
        PledgeHouse h = new PledgeHouse();
        for (int kind = 0; kind < 6; kind++) {
            h.setCut(kind, 11 * kind);
        }
        kinds(h, PledgeHouse::cutOf, 0, 11, 22, 33, 44, 55);
        says("- `cut`: 0 to 90");
        takes(0, 90, PledgeHouse::new, (x, v) -> x.setCut(0, v), (x, v) -> x.cutOf(0), (x, v) -> v);
        takes(0, 90, () -> Houses.borrowers(1, 1), (x, v) -> x.setCut(0, v), (x, v) -> x.coverOf(0),
                (x, v) -> 1000 - 10 * v);
        says("Returns how many clients are called by that.");
        PledgeHouse all = Houses.borrowers(8, 800);
        due("none at the same cut", all.setCut(0, 20), 0);
        due("none by another kind", all.setCut(1, 90), 0);
        due("all of them", all.setCut(0, 21), 8);
        due("none of those who are called already", all.setCut(0, 22), 0);
        due("none if all are covered again", all.setCut(0, 20), 0);
        PledgeHouse edge = Houses.borrowers(2, 790);
        edge.lend(1, 1);
        due("one who owes 1 more than is covered, not one who owes just that", edge.setCut(0, 21), 1);
        says("Throws `IndexOutOfBoundsException` if there is no such kind");
        noSuchKind(Houses.busy(), (x, kind) -> x.setCut(kind, 0));
        says("Throws `IllegalArgumentException` if cut is out of range");
        refusesBeside(0, 90, Houses.busy(), NO_ARGUMENT, (x, cut) -> x.setCut(0, cut));
        refusesBeside(0, 90, Houses.busy(), NO_ARGUMENT, (x, cut) -> x.setCut(5, cut));
    }

    private static void fall() {
        promise(4);
        says("Lets all prices fall by a percentage: each becomes what is left of it, rounded down, 1 at least.");
        // By 1: 199 leaves 197.01, 101 leaves 99.99, 2 leaves 1.98, and 1 would leave 0.99.
        fallenPrices(1, new int[] {500, 199, 101, 100, 2, 1}, 495, 197, 99, 99, 1, 1);
        // By 90: 20 leaves just 2, 19 leaves 1.9, 10 leaves just 1, and 9 would leave 0.9.
        fallenPrices(90, new int[] {500, 20, 19, 10, 9, 1}, 50, 2, 1, 1, 1, 1);
        fallenPrices(50, new int[] {499, 4, 3, 2, 1, 1}, 249, 2, 1, 1, 1, 1);
        says("Undoable.");
        undoable(Houses.borrowers(8, 800), h -> h.fall(1));
        PledgeHouse least = new PledgeHouse();
        for (int kind = 0; kind < 6; kind++) {
            least.setPrice(kind, 1);
        }
        undoable(least, h -> h.fall(90));
        says("- `percent`: 1 to 90");
        takes(1, 90, PledgeHouse::new, PledgeHouse::fall, (x, v) -> x.priceOf(5), (x, v) -> 100 - v);
        says("Returns how many clients are called by that.");
        PledgeHouse all = Houses.borrowers(8, 800);
        due("all of them", all.fall(1), 8);
        due("none of those who are called already", all.fall(1), 0);
        PledgeHouse edge = Houses.borrowers(2, 792);
        edge.lend(1, 1);
        due("one who owes 1 more than is covered, not one who owes just that", edge.fall(1), 1);
        PledgeHouse cheap = new PledgeHouse();
        cheap.setPrice(0, 1);
        cheap.pledge(0, 0, 50);
        cheap.lend(0, 40);
        due("none at the least price", cheap.fall(90), 0);
        says("Throws `IllegalArgumentException` if percent is out of range");
        refusesBeside(1, 90, Houses.busy(), NO_ARGUMENT, PledgeHouse::fall);
    }

    private static void fallenPrices(int percent, int[] prices, long... left) {
        PledgeHouse h = new PledgeHouse();
        for (int kind = 0; kind < 6; kind++) {
            h.setPrice(kind, prices[kind]);
        }
        h.fall(percent);
        kinds(h, PledgeHouse::priceOf, left);
    }

    private static void pledge() {
        promise(5);
        noEdge("A client pledges umbrellas.");
        says("Undoable.");
        undoable(Houses.full(), h -> h.pledge(7, 5, 50));
        undoable(Houses.allCalled(), h -> h.pledge(7, 0, 50));
        says("- `client`: 0 to 7");
        PledgeHouse h = new PledgeHouse();
        for (int client = 0; client < 8; client++) {
            h.pledge(client, 5, client + 1);
        }
        clients(h, (x, client) -> x.piecesOf(client, 5), 1, 2, 3, 4, 5, 6, 7, 8);
        clients(h, (x, client) -> x.piecesOf(client, 4), 0);
        clients(h, (x, client) -> x.piecesOf(client, 0), 0);
        says("- `kind`: 0 to 5");
        PledgeHouse k = new PledgeHouse();
        for (int kind = 0; kind < 6; kind++) {
            k.pledge(3, kind, kind + 1);
        }
        kinds(k, (x, kind) -> x.piecesOf(3, kind), 1, 2, 3, 4, 5, 6);
        kinds(k, (x, kind) -> x.piecesOf(2, kind), 0);
        kinds(k, (x, kind) -> x.piecesOf(4, kind), 0);
        says("- `many`: 1 to 50");
        takes(1, 50, PledgeHouse::new, (x, v) -> x.pledge(7, 5, v), (x, v) -> x.piecesOf(7, 5), (x, v) -> v);
        says("Returns how many of this kind the client has pledged then.");
        PledgeHouse some = Houses.full();
        due("the first ones of a client", new PledgeHouse().pledge(0, 0, 50), 50);
        due("more of them", some.pledge(0, 0, 50), 55);
        due("up to the most", some.pledge(0, 0, 44), 99);
        due("of this kind alone", some.pledge(0, 1, 1), 6);
        due("of this client alone", some.pledge(1, 0, 1), 6);
        says("Throws `IndexOutOfBoundsException` if there is no such client or kind");
        noSuchClient(Houses.busy(), (x, client) -> x.pledge(client, 0, 1));
        noSuchKind(Houses.busy(), (x, kind) -> x.pledge(0, kind, 1));
        noSuchKind(Houses.busy(), (x, kind) -> x.pledge(7, kind, 1));
        says("Throws `IllegalArgumentException` if many is out of range");
        refusesBeside(1, 50, Houses.busy(), NO_ARGUMENT, (x, many) -> x.pledge(0, 5, many));
        says("Throws `IllegalStateException` if they would be more than 99");
        for (int many = 2; many < 50; many++) {
            PledgeHouse most = new PledgeHouse();
            most.pledge(7, 5, 50);
            most.pledge(7, 5, 50 - many);
            refuses(most, NO_STATE, (x, value) -> x.pledge(7, 5, value), many);
            due("one less", most.pledge(7, 5, many - 1), 99);
            refuses(most, NO_STATE, (x, value) -> x.pledge(7, 5, value), 1, many);
        }
        PledgeHouse half = new PledgeHouse();
        half.pledge(0, 0, 50);
        refuses(half, NO_STATE, x -> x.pledge(0, 0, 50));
        due("one less", half.pledge(0, 0, 49), 99);
        due("of another kind", half.pledge(0, 1, 50), 50);
        due("of another client", half.pledge(1, 0, 50), 50);
    }

    private static void release() {
        promise(6);
        noEdge("A client gets umbrellas back.");
        says("Undoable.");
        undoable(Houses.full(), h -> h.release(7, 5, 5));
        says("- `client`: 0 to 7");
        PledgeHouse h = Houses.full();
        for (int client = 0; client < 8; client++) {
            h.release(client, 5, client % 5 + 1);
        }
        clients(h, (x, client) -> x.piecesOf(client, 5), 4, 3, 2, 1, 0, 4, 3, 2);
        clients(h, (x, client) -> x.piecesOf(client, 4), 5);
        clients(h, (x, client) -> x.piecesOf(client, 0), 5);
        says("- `kind`: 0 to 5");
        PledgeHouse k = Houses.full();
        for (int kind = 0; kind < 6; kind++) {
            k.release(3, kind, kind % 5 + 1);
        }
        kinds(k, (x, kind) -> x.piecesOf(3, kind), 4, 3, 2, 1, 0, 4);
        kinds(k, (x, kind) -> x.piecesOf(2, kind), 5);
        kinds(k, (x, kind) -> x.piecesOf(4, kind), 5);
        says("- `many`: 1 to 50");
        takes(1, 50, Houses::richest, (x, v) -> x.release(0, 5, v), (x, v) -> x.piecesOf(0, 5), (x, v) -> 99 - v);
        says("Returns how many of this kind the client has pledged then.");
        PledgeHouse some = Houses.full();
        due("some", some.release(0, 0, 4), 1);
        due("the last one", some.release(0, 0, 1), 0);
        due("of this kind alone", some.release(0, 1, 1), 4);
        due("of this client alone", some.release(1, 0, 1), 4);
        says("Throws `IndexOutOfBoundsException` if there is no such client or kind");
        noSuchClient(Houses.busy(), (x, client) -> x.release(client, 0, 1));
        noSuchKind(Houses.busy(), (x, kind) -> x.release(0, kind, 1));
        noSuchKind(Houses.busy(), (x, kind) -> x.release(7, kind, 1));
        says("Throws `IllegalArgumentException` if many is out of range");
        refusesBeside(1, 50, Houses.richest(), NO_ARGUMENT, (x, many) -> x.release(0, 5, many));
        says("Throws `IllegalStateException` if there are not so many, or the debt would not be covered");
        PledgeHouse few = Houses.full();
        refuses(few, NO_STATE, (x, many) -> x.release(4, 3, many), 6, 7, 50);
        due("just so many", few.release(4, 3, 5), 0);
        refuses(few, NO_STATE, (x, many) -> x.release(4, 3, many), 1, 50);
        refuses(new PledgeHouse(), NO_STATE, x -> x.release(0, 0, 1));
        PledgeHouse owing = Houses.borrowers(1, 720);
        due("a debt that is just covered then", owing.release(0, 0, 1), 9);
        refuses(owing, NO_STATE, (x, many) -> x.release(0, 0, many), 1, 9);
        PledgeHouse more = Houses.borrowers(1, 721);
        refuses(more, NO_STATE, x -> x.release(0, 0, 1));
        more.payBack(0, 721);
        due("all of them without debt", more.release(0, 0, 10), 0);
        PledgeHouse called = Houses.allCalled();
        called.pledge(0, 1, 1);
        called.setPrice(0, 50);
        refuses(called, NO_STATE, x -> x.release(0, 1, 1));
        refuses(called, NO_STATE, x -> x.release(0, 0, 1));
    }
}
