/** Houses in which something has happened already, for the tests to go on from. */
final class Houses {
    private Houses() {
    }

    /** So many clients with 10 umbrellas of kind 0, which cover 800, and a debt each. */
    static PledgeHouse borrowers(int clients, int debt) {
        PledgeHouse h = new PledgeHouse();
        for (int client = 0; client < clients; client++) {
            h.pledge(client, 0, 10);
            h.lend(client, debt);
        }
        return h;
    }

    /** As 8 borrowers, but each client owes less by a step than the one ahead: client 0 owes all of 800. */
    static PledgeHouse borrowersBySteps(int step) {
        PledgeHouse h = new PledgeHouse();
        for (int client = 0; client < 8; client++) {
            h.pledge(client, 0, 10);
            h.lend(client, 800 - step * client);
        }
        return h;
    }

    /** Client 0 has 10 umbrellas, which cover 800 and bring 95 each, and owes what more covered; there is no interest. */
    static PledgeHouse lowered(int debt) {
        PledgeHouse h = new PledgeHouse();
        h.changeRate(0);
        h.setPrice(0, 500);
        h.pledge(0, 0, 10);
        h.lend(0, debt);
        h.setPrice(0, 100);
        return h;
    }

    /** All 8 clients owe 800, and 792 are covered: each is called and has 6 hours left. */
    static PledgeHouse allCalled() {
        PledgeHouse h = borrowers(8, 800);
        h.setPrice(0, 99);
        return h;
    }

    /** All 8 clients owed 801, and what they had brought nothing. */
    static PledgeHouse allBarred() {
        PledgeHouse h = borrowers(8, 800);
        h.changeGrace(1);
        h.setPrice(0, 1);
        h.pass(1);
        return h;
    }

    /** Each client has 5 umbrellas of each kind, 100 coins, and owes 10. */
    static PledgeHouse full() {
        PledgeHouse h = new PledgeHouse();
        for (int client = 0; client < 8; client++) {
            for (int kind = 0; kind < 6; kind++) {
                h.pledge(client, kind, 5);
            }
            h.deposit(client, 100);
            h.lend(client, 10);
        }
        return h;
    }

    /** Client 0 had 10 umbrellas and owed 801; they brought 9 each. */
    static PledgeHouse lossMaker() {
        PledgeHouse h = borrowers(1, 800);
        h.changeGrace(1);
        h.setPrice(0, 10);
        h.pass(1);
        return h;
    }

    /** Client 0 has all that a client can have: 99 umbrellas of each kind at 500 without a cut, and 99999 coins. */
    static PledgeHouse richest() {
        PledgeHouse h = new PledgeHouse();
        for (int kind = 0; kind < 6; kind++) {
            h.setPrice(kind, 500);
            h.setCut(kind, 0);
            h.pledge(0, kind, 50);
            h.pledge(0, kind, 49);
        }
        for (int turn = 0; turn < 10; turn++) {
            h.deposit(0, 9999);
        }
        h.deposit(0, 9);
        return h;
    }

    /** Client 0 owes all that all pledges can cover: 297000 by umbrellas, and 99999. */
    static PledgeHouse greatestDebt() {
        PledgeHouse h = richest();
        for (int turn = 0; turn < 39; turn++) {
            h.lend(0, 9999);
        }
        h.lend(0, 396999 - 39 * 9999);
        return h;
    }

    /** Something of everything: all clients owe, some are called, some were sold out, and the rules are changed. */
    static PledgeHouse busy() {
        PledgeHouse h = new PledgeHouse();
        for (int client = 0; client < 8; client++) {
            h.pledge(client, client % 6, 10 + client);
            h.pledge(client, (client + 2) % 6, 3);
            h.deposit(client, 11 * client + 1);
            h.lend(client, h.roomOf(client) - 7 * client);
            h.setPrice(client % 6, 90 + 7 * client);
            h.setCut((client + 1) % 6, 12 * client % 90);
        }
        h.changeRate(35);
        h.pass(9);
        h.turnOrder();
        h.changeSlip(33);
        h.changeGrace(4);
        h.pass(3);
        return h;
    }

    static PledgeHouse typed(String text) {
        PledgeHouse h = new PledgeHouse();
        type(h, text);
        return h;
    }

    static void type(PledgeHouse h, String text) {
        for (char sign : text.toCharArray()) {
            h.append(sign);
        }
    }

    /** Fills the buffer anew, and follows it. */
    static int follow(PledgeHouse h, String text) {
        h.clearBuffer();
        type(h, text);
        return h.follow();
    }
}
