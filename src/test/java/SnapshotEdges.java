import java.util.function.Consumer;

/** Promises 21 to 24, and what "Snapshots, undo" says. */
final class SnapshotEdges extends Edges {
    @Override
    void tell() {
        keep();
        goBack();
        undo();
        savedStates();
        snapshotsAndUndo();
    }

    private static void keep() {
        promise(21);
        says("Takes a snapshot, in place of the one in the slot.");
        PledgeHouse h = new PledgeHouse();
        for (int rate = 1; rate <= 3; rate++) {
            h.changeRate(rate);
            h.keep(0);
            h.changeRate(50 + rate);
            h.keep(1);
        }
        h.changeRate(99);
        h.goBack(0);
        due("rate of the latest one", h.rate(), 3);
        h.goBack(1);
        due("rate of the latest one in the other slot", h.rate(), 53);
        says("- `slot`: 0 or 1");
        for (int slot = 0; slot <= 1; slot++) {
            PledgeHouse one = new PledgeHouse();
            one.keep(slot);
            refuses(one, NO_STATE, PledgeHouse::goBack, 1 - slot);
            one.goBack(slot);
            due("savedStates", one.savedStates(), 1);
        }
        says("Throws `IllegalArgumentException` if slot is out of range");
        refusesBeside(0, 1, Houses.busy(), NO_ARGUMENT, PledgeHouse::keep);
    }

    private static void goBack() {
        promise(22);
        says("Goes back to a snapshot, which stays.");
        PledgeHouse h = Houses.busy();
        h.keep(1);
        long kept = h.digest();
        for (int turn = 0; turn < 3; turn++) {
            changeEverything(h);
            h.goBack(1);
            due("digest", h.digest(), kept);
        }
        says("Undoable.");
        PledgeHouse u = new PledgeHouse();
        u.keep(0);
        u.keep(1);
        u.changeRate(1);
        undoable(u, x -> x.goBack(1));
        PledgeHouse same = new PledgeHouse();
        same.keep(1);
        same.goBack(1);
        due("savedStates, though nothing is changed", same.savedStates(), 1);
        says("- `slot`: 0 or 1");
        PledgeHouse both = new PledgeHouse();
        both.changeRate(20);
        both.keep(0);
        both.changeRate(21);
        both.keep(1);
        both.changeRate(22);
        for (int slot = 0; slot <= 1; slot++) {
            both.goBack(slot);
            due("rate of slot " + slot, both.rate(), 20 + slot);
        }
        says("Throws `IllegalArgumentException` if slot is out of range");
        refusesBeside(0, 1, both, NO_ARGUMENT, PledgeHouse::goBack);
        refusesBeside(0, 1, new PledgeHouse(), NO_ARGUMENT, PledgeHouse::goBack);
        says("Throws `IllegalStateException` if there is no snapshot in it");
        PledgeHouse none = new PledgeHouse();
        refuses(none, NO_STATE, PledgeHouse::goBack, 0, 1);
        none.changeRate(1);
        refuses(none, NO_STATE, PledgeHouse::goBack, 0, 1);
        none.keep(0);
        refuses(none, NO_STATE, PledgeHouse::goBack, 1);
        PledgeHouse other = new PledgeHouse();
        other.keep(1);
        refuses(other, NO_STATE, PledgeHouse::goBack, 0);
        other.keep(0);
        other.goBack(0);
        due("savedStates", other.savedStates(), 1);
    }

    private static void undo() {
        promise(23);
        says("Restores the latest saved state, and drops it.");
        PledgeHouse h = new PledgeHouse();
        long[] digests = new long[6];
        for (int states = 0; states < 6; states++) {
            digests[states] = h.digest();
            h.pledge(states, states, 10 + states);
        }
        for (int states = 5; states >= 0; states--) {
            h.undo();
            due("digest with " + states + " states", h.digest(), digests[states]);
        }
        says("Throws `IllegalStateException` if there is none");
        refuses(h, NO_STATE, PledgeHouse::undo);
        refuses(new PledgeHouse(), NO_STATE, PledgeHouse::undo);
        PledgeHouse unsaved = Houses.typed("h1");
        unsaved.keep(0);
        unsaved.clearBuffer();
        refuses(unsaved, NO_STATE, PledgeHouse::undo);
        PledgeHouse last = new PledgeHouse();
        last.changeRate(1);
        last.undo();
        due("rate", last.rate(), 10);
        refuses(last, NO_STATE, PledgeHouse::undo);
        last.changeRate(2);
        last.undo();
        due("rate", last.rate(), 10);
    }

    private static void savedStates() {
        promise(24);
        noEdge("Returns how many states are saved.");
        says("Returns 0 to 6.");
        PledgeHouse h = new PledgeHouse();
        due("none", h.savedStates(), 0);
        for (int turn = 1; turn <= 20; turn++) {
            h.changeRate(turn);
            due("savedStates", h.savedStates(), Math.min(turn, 6));
        }
        for (int turn = 1; turn <= 6; turn++) {
            h.undo();
            due("savedStates", h.savedStates(), 6 - turn);
        }
    }

    private static void snapshotsAndUndo() {
        section("Snapshots, undo");
        says("There are two slots; a snapshot is all but the buffer, the slots and the saved states.");
        snapshotHoldsAll();
        snapshotLeavesTheRest();
        says("Each method that is marked \"undoable\" and does not throw an exception saves the state from before it, also if "
                + "it changes nothing: all but the buffer, the slots and the saved states.");
        eachSaves();
        othersDoNotSave();
        undoLeavesTheRest();
        says("At most 6 states are saved; the oldest one is dropped first.");
        for (int more = 0; more <= 8; more++) {
            PledgeHouse h = new PledgeHouse();
            for (int rate = 1; rate <= 6 + more; rate++) {
                h.changeRate(rate);
            }
            for (int rate = 5 + more; rate >= more; rate--) {
                h.undo();
                due("rate", h.rate(), rate == 0 ? 10 : rate);
            }
            refuses(h, NO_STATE, PledgeHouse::undo);
        }
    }

    private static void changeEverything(PledgeHouse h) {
        h.changeRate(91);
        h.changeGrace(17);
        h.changeSlip(41);
        h.turnOrder();
        for (int kind = 0; kind < 6; kind++) {
            h.setPrice(kind, 40 + kind);
            h.setCut(kind, 70 + kind);
            h.pledge(kind, kind, 1);
        }
        h.pass(100);
        for (int client = 0; client < 8; client++) {
            h.deposit(client, 1000);
        }
    }

    private static void snapshotHoldsAll() {
        for (int slot = 0; slot <= 1; slot++) {
            PledgeHouse h = Houses.busy();
            h.keep(slot);
            long kept = h.digest();
            due("savedStates", h.savedStates(), 6);
            changeEverything(h);
            h.goBack(slot);
            due("digest", h.digest(), kept);
        }
        PledgeHouse called = Houses.allCalled();
        called.pass(3);
        called.keep(0);
        called.pass(3);
        called.goBack(0);
        clients(called, PledgeHouse::hoursLeft, 3);
        PledgeHouse barred = Houses.allBarred();
        barred.keep(0);
        barred.readmit(7);
        barred.goBack(0);
        due("isBarred", barred.isBarred(7), true);
    }

    private static void snapshotLeavesTheRest() {
        PledgeHouse h = Houses.typed("h1");
        h.keep(0);
        h.append(';');
        h.changeRate(1);
        h.changeRate(2);
        h.keep(1);
        h.goBack(0);
        due("the buffer", h.clearBuffer(), 3);
        due("the saved states", h.savedStates(), 3);
        h.goBack(1);
        due("the other slot", h.rate(), 2);
        h.undo();
        h.undo();
        due("the latest state from before", h.rate(), 2);
        h.undo();
        due("the state from before that", h.rate(), 1);
        h.goBack(0);
        h.goBack(1);
        due("a slot stays when states are dropped", h.rate(), 2);
    }

    private static void eachSaves() {
        saves(h -> h.setPrice(1, 100));
        saves(h -> h.setCut(1, 20));
        saves(h -> h.fall(1));
        saves(h -> h.pledge(0, 0, 1));
        saves(h -> h.release(0, 0, 1));
        saves(h -> h.deposit(0, 2));
        saves(h -> h.withdraw(0, 1));
        saves(h -> h.lend(0, 1));
        saves(h -> h.payBack(0, 1));
        saves(h -> h.readmit(1));
        saves(h -> h.pass(1));
        saves(h -> h.changeRate(10));
        saves(h -> h.changeGrace(1));
        saves(h -> h.changeSlip(5));
        saves(h -> h.turnOrder());
        saves(h -> Houses.follow(h, "p5=100"));
        saves(h -> h.goBack(0));
        saves(h -> h.goBack(1));
    }

    /** Client 1 is barred; client 0 was, and has umbrellas, coins and a debt again; both slots hold just this. */
    private static void saves(Consumer<PledgeHouse> call) {
        PledgeHouse h = Houses.allBarred();
        h.readmit(0);
        h.pledge(0, 0, 5);
        h.deposit(0, 50);
        h.lend(0, 40);
        h.setPrice(0, 2);
        h.keep(1);
        undoable(h, call);
        // With 6 states one more drops the oldest one, and is itself dropped by undo.
        for (int turn = 0; turn < 6; turn++) {
            h.changeGrace(1);
        }
        long before = h.digest();
        call.accept(h);
        due("savedStates", h.savedStates(), 6);
        h.undo();
        due("savedStates", h.savedStates(), 5);
        h.changeGrace(1);
        due("digest", h.digest(), before);
    }

    private static void othersDoNotSave() {
        PledgeHouse h = Houses.typed("h1");
        h.firstError();
        h.clearBuffer();
        h.keep(0);
        h.keep(1);
        due("savedStates", h.savedStates(), 0);
        h.changeRate(1);
        h.changeRate(2);
        h.undo();
        due("undo saves nothing", h.savedStates(), 1);
        refuses(h, NO_ARGUMENT, x -> x.changeRate(101));
        refuses(h, NO_STATE, x -> x.lend(0, 1));
        refuses(h, NO_ARGUMENT, PledgeHouse::follow);
        h.undo();
        due("rate", h.rate(), 10);
    }

    private static void undoLeavesTheRest() {
        PledgeHouse h = new PledgeHouse();
        h.changeRate(1);
        h.keep(1);
        Houses.type(h, "h5");
        h.undo();
        due("rate", h.rate(), 10);
        due("the buffer", h.firstError(), 2);
        h.goBack(1);
        due("a slot that was filled later", h.rate(), 1);
        h.follow();
        due("hours", h.hours(), 5);
        h.undo();
        due("hours", h.hours(), 0);
        due("a buffer that was followed stays cleared", h.clearBuffer(), 0);
        h.keep(1);
        h.undo();
        h.goBack(1);
        due("a snapshot in place of another stays", h.hours() + h.rate(), 1);
    }
}
