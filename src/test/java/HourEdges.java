/** Promises 12 to 16: hours and rules. */
final class HourEdges extends Edges {
    @Override
    void tell() {
        pass();
        changeRate();
        changeGrace();
        changeSlip();
        turnOrder();
    }

    private static void pass() {
        promise(12);
        noEdge("Lets hours go by.");
        says("Undoable.");
        undoable(Houses.allCalled(), h -> h.pass(100));
        undoable(new PledgeHouse(), h -> h.pass(1));
        says("- `hours`: 1 to 100");
        takes(1, 100, PledgeHouse::new, PledgeHouse::pass, (x, v) -> x.hours(), (x, v) -> v);
        says("Returns how often clients are sold out in them, each time counted.");
        due("nobody", new PledgeHouse().pass(100), 0);
        due("nobody, as one hour is left", Houses.allCalled().pass(5), 0);
        due("all of them in one hour", Houses.allCalled().pass(6), 8);
        // 800, 808 is called, 817 leaves 627 of 640; 634, 641 is called, 648 leaves 553 of 560: by hours 2 and 5.
        int[] soldOut = {0, 1, 1, 1, 2};
        for (int hours = 1; hours <= 5; hours++) {
            PledgeHouse one = Houses.borrowers(1, 800);
            one.changeRate(100);
            one.changeGrace(1);
            due("one, in " + hours + " hours", one.pass(hours), soldOut[hours - 1]);
            PledgeHouse three = Houses.borrowers(3, 800);
            three.changeRate(100);
            three.changeGrace(1);
            due("three, in " + hours + " hours", three.pass(hours), 3 * soldOut[hours - 1]);
        }
        PledgeHouse later = Houses.allCalled();
        later.pass(6);
        due("not those of earlier hours", later.pass(1), 0);
        says("Throws `IllegalArgumentException` if hours is out of range");
        refusesBeside(1, 100, Houses.busy(), NO_ARGUMENT, PledgeHouse::pass);
    }

    private static void changeRate() {
        promise(13);
        noEdge("Changes the interest.");
        says("Undoable.");
        undoable(Houses.busy(), h -> h.changeRate(100));
        undoable(new PledgeHouse(), h -> h.changeRate(10));
        says("- `rate`: 0 to 100");
        takes(0, 100, PledgeHouse::new, PledgeHouse::changeRate, (x, v) -> x.rate(), (x, v) -> v);
        says("Returns the rate before.");
        PledgeHouse h = new PledgeHouse();
        due("the first one", h.changeRate(0), 10);
        due("the least one", h.changeRate(100), 0);
        due("the greatest one", h.changeRate(100), 100);
        due("the same one", h.changeRate(1), 100);
        says("Throws `IllegalArgumentException` if rate is out of range");
        refusesBeside(0, 100, Houses.busy(), NO_ARGUMENT, PledgeHouse::changeRate);
    }

    private static void changeGrace() {
        promise(14);
        says("Changes how many hours a new call leaves; calls that go on are left as they are.");
        PledgeHouse h = Houses.allCalled();
        h.pass(2);
        h.changeGrace(1);
        clients(h, PledgeHouse::hoursLeft, 4);
        h.changeGrace(24);
        clients(h, PledgeHouse::hoursLeft, 4);
        h.pass(1);
        clients(h, PledgeHouse::hoursLeft, 3);
        h.deposit(7, 50);
        h.setCut(0, 80);
        due("hoursLeft of a new call", h.hoursLeft(7), 24);
        due("hoursLeft of a call that goes on", h.hoursLeft(6), 3);
        says("Undoable.");
        undoable(Houses.busy(), x -> x.changeGrace(24));
        undoable(new PledgeHouse(), x -> x.changeGrace(6));
        says("- `hours`: 1 to 24");
        takes(1, 24, PledgeHouse::new, PledgeHouse::changeGrace, (x, v) -> x.grace(), (x, v) -> v);
        takes(1, 24, () -> Houses.borrowers(1, 800), (x, v) -> {
            x.changeGrace(v);
            x.setPrice(0, 99);
        }, (x, v) -> x.hoursLeft(0), (x, v) -> v);
        says("Returns the hours before.");
        PledgeHouse g = new PledgeHouse();
        due("the first ones", g.changeGrace(1), 6);
        due("the least ones", g.changeGrace(24), 1);
        due("the most ones", g.changeGrace(24), 24);
        due("the same ones", g.changeGrace(2), 24);
        says("Throws `IllegalArgumentException` if hours is out of range");
        refusesBeside(1, 24, Houses.busy(), NO_ARGUMENT, PledgeHouse::changeGrace);
    }

    private static void changeSlip() {
        promise(15);
        noEdge("Changes by which percentage sales are below the price.");
        says("Undoable.");
        undoable(Houses.busy(), h -> h.changeSlip(50));
        undoable(new PledgeHouse(), h -> h.changeSlip(5));
        says("- `percent`: 0 to 50");
        takes(0, 50, PledgeHouse::new, PledgeHouse::changeSlip, (x, v) -> x.slip(), (x, v) -> v);
        says("Returns the percentage before.");
        PledgeHouse h = new PledgeHouse();
        due("the first one", h.changeSlip(0), 5);
        due("the least one", h.changeSlip(50), 0);
        due("the greatest one", h.changeSlip(50), 50);
        due("the same one", h.changeSlip(1), 50);
        says("Throws `IllegalArgumentException` if percent is out of range");
        refusesBeside(0, 50, Houses.busy(), NO_ARGUMENT, PledgeHouse::changeSlip);
    }

    private static void turnOrder() {
        promise(16);
        says("Changes the order of sales to the next one: after 2 comes 0.");
        PledgeHouse h = new PledgeHouse();
        for (int turn = 1; turn <= 7; turn++) {
            h.turnOrder();
            due("order behind turn " + turn, h.order(), turn % 3);
        }
        says("Undoable.");
        PledgeHouse u = new PledgeHouse();
        for (int turn = 0; turn < 3; turn++) {
            undoable(u, PledgeHouse::turnOrder);
            u.turnOrder();
        }
        says("Returns the order then.");
        PledgeHouse r = new PledgeHouse();
        due("turnOrder", r.turnOrder(), 1);
        due("turnOrder", r.turnOrder(), 2);
        due("turnOrder", r.turnOrder(), 0);
    }
}
