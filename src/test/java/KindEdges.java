/** Promises 25 to 28 and 42 to 45: kinds and rules as they are. */
final class KindEdges extends Edges {
    @Override
    void tell() {
        priceOf();
        cutOf();
        pledgedOf();
        soldOf();
        rate();
        grace();
        slip();
        order();
    }

    private static void priceOf() {
        promise(25);
        noEdge("Returns the price of a kind.");
        says("- `kind`: 0 to 5");
        PledgeHouse h = new PledgeHouse();
        for (int kind = 0; kind < 6; kind++) {
            h.setPrice(kind, 499 - kind);
        }
        kinds(h, PledgeHouse::priceOf, 499, 498, 497, 496, 495, 494);
        says("Returns the price.");
        kinds(new PledgeHouse(), PledgeHouse::priceOf, 100);
        h.setPrice(0, 1);
        h.setPrice(5, 500);
        kinds(h, PledgeHouse::priceOf, 1, 498, 497, 496, 495, 500);
        says("Throws `IndexOutOfBoundsException` if there is no such kind");
        noSuchKind(Houses.busy(), PledgeHouse::priceOf);
    }

    private static void cutOf() {
        promise(26);
        noEdge("Returns the cut of a kind.");
        says("- `kind`: 0 to 5");
        PledgeHouse h = new PledgeHouse();
        for (int kind = 0; kind < 6; kind++) {
            h.setCut(kind, 89 - kind);
        }
        kinds(h, PledgeHouse::cutOf, 89, 88, 87, 86, 85, 84);
        says("Returns the percentage.");
        kinds(new PledgeHouse(), PledgeHouse::cutOf, 20);
        h.setCut(0, 0);
        h.setCut(5, 90);
        kinds(h, PledgeHouse::cutOf, 0, 88, 87, 86, 85, 90);
        says("Throws `IndexOutOfBoundsException` if there is no such kind");
        noSuchKind(Houses.busy(), PledgeHouse::cutOf);
    }

    private static void pledgedOf() {
        promise(27);
        says("Returns how many umbrellas of a kind are pledged by all clients.");
        PledgeHouse all = new PledgeHouse();
        for (int client = 0; client < 8; client++) {
            all.pledge(client, 3, 50);
            all.pledge(client, 3, 49);
        }
        kinds(all, PledgeHouse::pledgedOf, 0, 0, 0, 792, 0, 0);
        all.release(7, 3, 1);
        kinds(all, PledgeHouse::pledgedOf, 0, 0, 0, 791, 0, 0);
        says("- `kind`: 0 to 5");
        PledgeHouse h = new PledgeHouse();
        for (int kind = 0; kind < 6; kind++) {
            h.pledge(0, kind, 1);
            h.pledge(7, kind, 2 * kind + 1);
        }
        kinds(h, PledgeHouse::pledgedOf, 2, 4, 6, 8, 10, 12);
        says("Returns the umbrellas.");
        kinds(new PledgeHouse(), PledgeHouse::pledgedOf, 0);
        kinds(Houses.full(), PledgeHouse::pledgedOf, 40);
        PledgeHouse sold = Houses.allBarred();
        due("none of those that were sold", sold.pledgedOf(0), 0);
        says("Throws `IndexOutOfBoundsException` if there is no such kind");
        noSuchKind(Houses.busy(), PledgeHouse::pledgedOf);
    }

    private static void soldOf() {
        promise(28);
        says("Returns how many umbrellas of a kind were sold so far.");
        PledgeHouse h = Houses.allBarred();
        due("all that 8 clients had", h.soldOf(0), 80);
        h.readmit(0);
        h.pledge(0, 0, 10);
        due("not those that are pledged", h.soldOf(0), 80);
        h.release(0, 0, 9);
        due("not those that are given back", h.soldOf(0), 80);
        h.setPrice(0, 100);
        h.lend(0, 80);
        h.pass(2);
        due("one more", h.soldOf(0), 81);
        says("- `kind`: 0 to 5");
        for (int kind = 0; kind < 6; kind++) {
            PledgeHouse one = new PledgeHouse();
            one.pledge(7, kind, 1);
            one.lend(7, 80);
            one.pass(7);
            long[] sold = new long[6];
            sold[kind] = 1;
            kinds(one, PledgeHouse::soldOf, sold);
        }
        says("Returns the umbrellas.");
        kinds(new PledgeHouse(), PledgeHouse::soldOf, 0);
        kinds(Houses.full(), PledgeHouse::soldOf, 0);
        says("Throws `IndexOutOfBoundsException` if there is no such kind");
        noSuchKind(Houses.busy(), PledgeHouse::soldOf);
    }

    private static void rate() {
        promise(42);
        noEdge("Returns the interest.");
        says("Returns the rate.");
        PledgeHouse h = new PledgeHouse();
        due("at first", h.rate(), 10);
        h.changeRate(0);
        due("the least one", h.rate(), 0);
        h.changeRate(100);
        due("the greatest one", h.rate(), 100);
        refuses(h, NO_ARGUMENT, x -> x.changeRate(101));
        due("behind a refusal", h.rate(), 100);
    }

    private static void grace() {
        promise(43);
        noEdge("Returns how many hours a new call leaves.");
        says("Returns the hours.");
        PledgeHouse h = new PledgeHouse();
        due("at first", h.grace(), 6);
        h.changeGrace(1);
        due("the least", h.grace(), 1);
        h.changeGrace(24);
        due("the most", h.grace(), 24);
        refuses(h, NO_ARGUMENT, x -> x.changeGrace(25));
        due("behind a refusal", h.grace(), 24);
    }

    private static void slip() {
        promise(44);
        noEdge("Returns by which percentage sales are below the price.");
        says("Returns the percentage.");
        PledgeHouse h = new PledgeHouse();
        due("at first", h.slip(), 5);
        h.changeSlip(0);
        due("the least one", h.slip(), 0);
        h.changeSlip(50);
        due("the greatest one", h.slip(), 50);
        refuses(h, NO_ARGUMENT, x -> x.changeSlip(51));
        due("behind a refusal", h.slip(), 50);
    }

    private static void order() {
        promise(45);
        noEdge("Returns the order of sales.");
        says("Returns 0 to 2.");
        PledgeHouse h = new PledgeHouse();
        due("at first", h.order(), 0);
        h.turnOrder();
        due("the next one", h.order(), 1);
        h.turnOrder();
        due("the last one", h.order(), 2);
        h.turnOrder();
        due("the first one again", h.order(), 0);
    }
}
