import java.util.function.Consumer;

/** For each promise of the document what it says of ordinary inputs, of edges, and of wrong inputs. */
public final class PromiseTest {
    private static final Checks C = new Checks();

    public static void main(String[] args) {
        newObject();
        pricesAndPledges();
        coins();
        hoursAndRules();
        texts();
        snapshotsAndUndo();
        kindsAndClients();
        risk();
        rules();
        whatWouldBe();
        accounts();
        C.end("PromiseTest");
    }

    private static void newObject() {
        C.about("1 a new object");
        PledgeHouse h = new PledgeHouse();
        for (int kind = 0; kind < 6; kind++) {
            C.due("priceOf", h.priceOf(kind), 100);
            C.due("cutOf", h.cutOf(kind), 20);
            C.due("pledgedOf", h.pledgedOf(kind), 0);
            C.due("soldOf", h.soldOf(kind), 0);
        }
        for (int client = 0; client < 8; client++) {
            C.due("piecesOf", h.piecesOf(client, 5), 0);
            C.due("coinsOf", h.coinsOf(client), 0);
            C.due("debtOf", h.debtOf(client), 0);
            C.due("isBarred", h.isBarred(client), false);
            C.due("isCalled", h.isCalled(client), false);
        }
        C.due("clearBuffer", h.clearBuffer(), 0);
        C.due("savedStates", h.savedStates(), 0);
        C.noState(h, "goBack(0)", () -> h.goBack(0));
        C.noState(h, "goBack(1)", () -> h.goBack(1));
        C.noState(h, "undo()", () -> h.undo());
        C.due("two new houses", new PledgeHouse().digest(), h.digest());
    }

    private static void pricesAndPledges() {
        setPrice();
        setCut();
        fall();
        pledge();
        release();
    }

    private static void setPrice() {
        C.about("2 setPrice");
        PledgeHouse h = Houses.borrowers(2, 800);
        C.due("setPrice(0, 99)", h.setPrice(0, 99), 2);
        C.due("priceOf", h.priceOf(0), 99);
        C.due("setPrice of those called", h.setPrice(0, 98), 0);
        C.due("calledNow", h.calledNow(), 2);
        C.due("setPrice(0, 100)", h.setPrice(0, 100), 0);
        C.due("calledNow", h.calledNow(), 0);
        C.due("setPrice(5, 1)", h.setPrice(5, 1), 0);
        C.due("setPrice(5, 500)", h.setPrice(5, 500), 0);
        h.undo();
        C.due("priceOf after undo", h.priceOf(5), 1);
        C.noPlace(h, "setPrice(-1, 1)", () -> h.setPrice(-1, 1));
        C.noPlace(h, "setPrice(6, 0)", () -> h.setPrice(6, 0));
        C.noArgument(h, "setPrice(0, 0)", () -> h.setPrice(0, 0));
        C.noArgument(h, "setPrice(0, 501)", () -> h.setPrice(0, 501));
    }

    private static void setCut() {
        C.about("3 setCut");
        PledgeHouse h = Houses.borrowers(3, 800);
        C.due("setCut(0, 21)", h.setCut(0, 21), 3);
        C.due("cutOf", h.cutOf(0), 21);
        C.due("setCut(0, 90)", h.setCut(0, 90), 0);
        C.due("coverOf", h.coverOf(0), 100);
        C.due("setCut(0, 0)", h.setCut(0, 0), 0);
        C.due("calledNow", h.calledNow(), 0);
        h.undo();
        C.due("cutOf after undo", h.cutOf(0), 90);
        C.noPlace(h, "setCut(-1, 91)", () -> h.setCut(-1, 91));
        C.noPlace(h, "setCut(6, 0)", () -> h.setCut(6, 0));
        C.noArgument(h, "setCut(0, -1)", () -> h.setCut(0, -1));
        C.noArgument(h, "setCut(0, 91)", () -> h.setCut(0, 91));
    }

    private static void fall() {
        C.about("4 fall");
        PledgeHouse h = Houses.borrowers(1, 800);
        h.setPrice(1, 1);
        h.setPrice(2, 3);
        h.setPrice(3, 500);
        C.due("fall(1)", h.fall(1), 1);
        C.due("price 100", h.priceOf(0), 99);
        C.due("price 1", h.priceOf(1), 1);
        C.due("price 3", h.priceOf(2), 2);
        C.due("price 500", h.priceOf(3), 495);
        C.due("fall(90)", h.fall(90), 0);
        C.due("price 99", h.priceOf(0), 9);
        C.due("price 2", h.priceOf(2), 1);
        C.due("price 495", h.priceOf(3), 49);
        h.undo();
        C.due("priceOf after undo", h.priceOf(0), 99);
        C.noArgument(h, "fall(0)", () -> h.fall(0));
        C.noArgument(h, "fall(91)", () -> h.fall(91));
    }

    private static void pledge() {
        C.about("5 pledge");
        PledgeHouse h = new PledgeHouse();
        C.due("pledge(7, 5, 1)", h.pledge(7, 5, 1), 1);
        C.due("pledge(7, 5, 50)", h.pledge(7, 5, 50), 51);
        C.due("pledge(7, 5, 48)", h.pledge(7, 5, 48), 99);
        C.noState(h, "pledge(7, 5, 1)", () -> h.pledge(7, 5, 1));
        C.noPlace(h, "pledge(8, 0, 0)", () -> h.pledge(8, 0, 0));
        C.noPlace(h, "pledge(-1, 0, 1)", () -> h.pledge(-1, 0, 1));
        C.noPlace(h, "pledge(0, 6, 1)", () -> h.pledge(0, 6, 1));
        C.noPlace(h, "pledge(0, -1, 51)", () -> h.pledge(0, -1, 51));
        C.noArgument(h, "pledge(7, 5, 0)", () -> h.pledge(7, 5, 0));
        C.noArgument(h, "pledge(7, 5, 51)", () -> h.pledge(7, 5, 51));
        h.undo();
        C.due("piecesOf after undo", h.piecesOf(7, 5), 51);
        PledgeHouse called = Houses.borrowers(1, 800);
        called.setPrice(0, 99);
        C.due("isCalled", called.isCalled(0), true);
        called.pledge(0, 1, 1);
        C.due("isCalled behind the pledge", called.isCalled(0), false);
    }

    private static void release() {
        C.about("6 release");
        PledgeHouse h = Houses.borrowers(1, 640);
        C.due("release(0, 0, 2)", h.release(0, 0, 2), 8);
        C.noState(h, "release of what covers", () -> h.release(0, 0, 1));
        C.noState(h, "release of too many", () -> h.release(0, 1, 1));
        h.payBack(0, 9999);
        C.noState(h, "release(0, 0, 9)", () -> h.release(0, 0, 9));
        C.due("release(0, 0, 8)", h.release(0, 0, 8), 0);
        h.undo();
        C.due("piecesOf after undo", h.piecesOf(0, 0), 8);
        C.noPlace(h, "release(8, 0, 0)", () -> h.release(8, 0, 0));
        C.noPlace(h, "release(-1, 0, 1)", () -> h.release(-1, 0, 1));
        C.noPlace(h, "release(0, 6, 51)", () -> h.release(0, 6, 51));
        C.noPlace(h, "release(0, -1, 1)", () -> h.release(0, -1, 1));
        C.noArgument(h, "release(0, 0, 0)", () -> h.release(0, 0, 0));
        C.noArgument(h, "release(0, 1, 51)", () -> h.release(0, 1, 51));
        PledgeHouse called = Houses.borrowers(1, 800);
        called.pledge(0, 1, 1);
        called.setPrice(0, 50);
        C.noState(called, "release of a client who is called", () -> called.release(0, 1, 1));
    }

    private static void coins() {
        deposit();
        withdraw();
        lend();
        payBack();
        readmit();
    }

    private static void deposit() {
        C.about("7 deposit");
        PledgeHouse h = new PledgeHouse();
        C.due("deposit(7, 1)", h.deposit(7, 1), 1);
        for (int turn = 0; turn < 9; turn++) {
            h.deposit(7, 9999);
        }
        C.due("deposit up to the most", h.deposit(7, 9999), 99991);
        C.due("deposit(7, 8)", h.deposit(7, 8), 99999);
        C.noState(h, "deposit(7, 1)", () -> h.deposit(7, 1));
        C.noArgument(h, "deposit(7, 10000)", () -> h.deposit(7, 10000));
        C.noArgument(h, "deposit(7, 0)", () -> h.deposit(7, 0));
        C.noPlace(h, "deposit(8, 0)", () -> h.deposit(8, 0));
        C.noPlace(h, "deposit(-1, 1)", () -> h.deposit(-1, 1));
        h.undo();
        C.due("coinsOf after undo", h.coinsOf(7), 99991);
        PledgeHouse called = Houses.borrowers(1, 800);
        called.setPrice(0, 99);
        called.deposit(0, 8);
        C.due("isCalled behind the deposit", called.isCalled(0), false);
    }

    private static void withdraw() {
        C.about("8 withdraw");
        PledgeHouse h = Houses.borrowers(1, 800);
        h.deposit(0, 50);
        C.due("withdraw(0, 30)", h.withdraw(0, 30), 20);
        C.noState(h, "withdraw of more", () -> h.withdraw(0, 21));
        h.lend(0, 15);
        C.noState(h, "withdraw of what covers", () -> h.withdraw(0, 6));
        C.due("withdraw(0, 5)", h.withdraw(0, 5), 15);
        h.undo();
        C.due("coinsOf after undo", h.coinsOf(0), 20);
        h.payBack(0, 15);
        C.due("withdraw of all", h.withdraw(0, 20), 0);
        C.noPlace(h, "withdraw(8, 0)", () -> h.withdraw(8, 0));
        C.noPlace(h, "withdraw(-1, 1)", () -> h.withdraw(-1, 1));
        C.noArgument(h, "withdraw(1, 0)", () -> h.withdraw(1, 0));
        C.noArgument(h, "withdraw(1, 10000)", () -> h.withdraw(1, 10000));
    }

    private static void lend() {
        C.about("9 lend");
        PledgeHouse h = Houses.borrowers(1, 799);
        C.noState(h, "lend(0, 2)", () -> h.lend(0, 2));
        C.due("lend(0, 1)", h.lend(0, 1), 800);
        C.noState(h, "lend(0, 1)", () -> h.lend(0, 1));
        h.undo();
        C.due("debtOf after undo", h.debtOf(0), 799);
        C.noPlace(h, "lend(8, 0)", () -> h.lend(8, 0));
        C.noPlace(h, "lend(-1, 1)", () -> h.lend(-1, 1));
        C.noArgument(h, "lend(1, 0)", () -> h.lend(1, 0));
        C.noArgument(h, "lend(1, 10000)", () -> h.lend(1, 10000));
        PledgeHouse barred = Houses.lossMaker();
        barred.deposit(0, 1000);
        C.noState(barred, "lend to one who is barred", () -> barred.lend(0, 1));
    }

    private static void payBack() {
        C.about("10 payBack");
        PledgeHouse h = Houses.borrowers(1, 800);
        C.due("payBack(0, 300)", h.payBack(0, 300), 300);
        C.due("debtOf", h.debtOf(0), 500);
        C.due("payBack(0, 9999)", h.payBack(0, 9999), 500);
        C.due("debtOf", h.debtOf(0), 0);
        C.noState(h, "payBack without debt", () -> h.payBack(0, 1));
        h.undo();
        C.due("debtOf after undo", h.debtOf(0), 500);
        C.noPlace(h, "payBack(8, 0)", () -> h.payBack(8, 0));
        C.noPlace(h, "payBack(-1, 1)", () -> h.payBack(-1, 1));
        C.noArgument(h, "payBack(1, 0)", () -> h.payBack(1, 0));
        C.noArgument(h, "payBack(1, 10000)", () -> h.payBack(1, 10000));
        PledgeHouse called = Houses.borrowers(1, 800);
        called.setPrice(0, 99);
        called.payBack(0, 7);
        C.due("isCalled with 1 too much", called.isCalled(0), true);
        called.payBack(0, 1);
        C.due("isCalled behind the last", called.isCalled(0), false);
    }

    private static void readmit() {
        C.about("11 readmit");
        PledgeHouse h = Houses.lossMaker();
        h.deposit(0, 100);
        h.readmit(0);
        C.due("isBarred behind readmit", h.isBarred(0), false);
        C.due("lend", h.lend(0, 100), 100);
        C.noState(h, "readmit of one who is not barred", () -> h.readmit(0));
        C.noPlace(h, "readmit(8)", () -> h.readmit(8));
        C.noPlace(h, "readmit(-1)", () -> h.readmit(-1));
        h.undo();
        h.undo();
        C.due("isBarred after undo", h.isBarred(0), true);
    }

    private static void hoursAndRules() {
        pass();
        sellingOut();
        sellingOrders();
        changes();
    }

    private static void pass() {
        C.about("12 pass");
        PledgeHouse h = Houses.borrowers(1, 800);
        C.due("pass(1)", h.pass(1), 0);
        C.due("debtOf", h.debtOf(0), 801);
        C.due("hoursLeft of a new call", h.hoursLeft(0), 6);
        C.due("pass(5)", h.pass(5), 0);
        C.due("hoursLeft", h.hoursLeft(0), 1);
        C.due("debtOf", h.debtOf(0), 806);
        C.due("pass that sells out", h.pass(1), 1);
        C.due("debtOf", h.debtOf(0), 807 - 95);
        C.due("isCalled", h.isCalled(0), false);
        C.due("soldOf", h.soldOf(0), 1);
        C.due("piecesOf", h.piecesOf(0, 0), 9);
        C.due("isBarred without a loss", h.isBarred(0), false);
        C.due("pass behind one that sold out", h.pass(1), 0);
        h.undo();
        h.undo();
        C.due("hoursLeft after undo", h.hoursLeft(0), 1);
        h.changeRate(100);
        h.changeGrace(1);
        // At 1 percent an hour the debt stays ahead of what is covered, and is sold out again and again.
        C.due("pass(100)", h.pass(100) > 1, true);
        C.due("hours", h.hours(), 106);
        C.noArgument(h, "pass(0)", () -> h.pass(0));
        C.noArgument(h, "pass(101)", () -> h.pass(101));
        PledgeHouse paid = Houses.borrowers(1, 800);
        paid.pass(1);
        paid.deposit(0, 1);
        C.due("isCalled once it is covered", paid.isCalled(0), false);
        paid.pass(1);
        C.due("hoursLeft of a second call", paid.hoursLeft(0), 6);
        C.due("calls", paid.calls(), 2);
    }

    private static void sellingOut() {
        C.about("12 pass, selling out");
        PledgeHouse h = Houses.borrowers(1, 800);
        h.deposit(0, 30);
        h.changeGrace(1);
        h.setPrice(0, 90);
        // The coins leave 771 against 720; each sale brings 85 for 72 that are covered, so the fourth is enough.
        C.due("pass(1)", h.pass(1), 1);
        C.due("coinsOf", h.coinsOf(0), 0);
        C.due("debtOf", h.debtOf(0), 801 - 30 - 4 * 85);
        C.due("soldOf", h.soldOf(0), 4);
        C.due("repaid", h.repaid(), 30 + 4 * 85);
        PledgeHouse one = new PledgeHouse();
        one.setPrice(0, 500);
        one.setCut(0, 90);
        one.pledge(0, 0, 1);
        one.lend(0, 50);
        one.changeGrace(1);
        one.pass(2);
        C.due("what is more than the debt", one.coinsOf(0), 475 - 52);
        C.due("debtOf", one.debtOf(0), 0);
        C.due("repaid", one.repaid(), 52);
        PledgeHouse lossy = Houses.lossMaker();
        C.due("debtOf", lossy.debtOf(0), 0);
        C.due("isBarred", lossy.isBarred(0), true);
        C.due("isCalled", lossy.isCalled(0), false);
        C.due("pledgedOf", lossy.pledgedOf(0), 0);
    }

    /** Three pieces: 200 with a cut of 50, 100 with 10, 300 with 30; 407 are owed, and 400 are covered. */
    private static PledgeHouse threeKinds() {
        PledgeHouse h = new PledgeHouse();
        h.setPrice(1, 200);
        h.setCut(1, 50);
        h.setCut(2, 10);
        h.setPrice(3, 300);
        h.setCut(3, 30);
        for (int kind = 1; kind <= 3; kind++) {
            h.pledge(0, kind, 1);
        }
        h.lend(0, 400);
        h.pass(6);
        return h;
    }

    private static void sellingOrders() {
        C.about("12 pass, orders of sales");
        int[][] sold = {{0, 0, 1}, {0, 1, 1}, {1, 0, 0}};
        for (int order = 0; order < 3; order++) {
            PledgeHouse h = threeKinds();
            for (int turn = 0; turn < order; turn++) {
                h.turnOrder();
            }
            C.due("pass(1) by order " + order, h.pass(1), 1);
            for (int kind = 1; kind <= 3; kind++) {
                C.due("soldOf " + kind + " by order " + order, h.soldOf(kind), sold[order][kind - 1]);
            }
        }
        for (int order = 0; order < 3; order++) {
            PledgeHouse even = new PledgeHouse();
            even.pledge(0, 2, 1);
            even.pledge(0, 4, 1);
            even.lend(0, 160);
            for (int turn = 0; turn < order; turn++) {
                even.turnOrder();
            }
            even.pass(7);
            C.due("soldOf the lowest of equal kinds", even.soldOf(2), 1);
            C.due("soldOf the other of equal kinds", even.soldOf(4), 0);
        }
    }

    private static void changes() {
        C.about("13 changeRate");
        PledgeHouse h = Houses.borrowers(2, 700);
        C.due("changeRate(100)", h.changeRate(100), 10);
        h.pass(1);
        C.due("debtOf at 1 percent", h.debtOf(0), 707);
        C.due("changeRate(0)", h.changeRate(0), 100);
        h.pass(1);
        C.due("debtOf without interest", h.debtOf(0), 707);
        h.undo();
        h.undo();
        C.due("rate after undo", h.rate(), 100);
        // 1000 * 10 is a whole coin in ten thousandths, 1001 * 10 is more than that; 1 * 1 is the least part of one.
        int[][] rounded = {{10, 1000, 1}, {10, 1001, 2}, {1, 1, 1}, {1, 9999, 1}, {1, 10001, 2}};
        for (int[] debt : rounded) {
            PledgeHouse r = new PledgeHouse();
            r.pledge(0, 0, 50);
            r.setPrice(0, 500);
            r.changeRate(debt[0]);
            r.lend(0, debt[1] - debt[1] / 2);
            if (debt[1] > 1) {
                r.lend(0, debt[1] / 2);
            }
            r.pass(1);
            C.due("interest on " + debt[1], r.interest(), debt[2]);
        }
        C.noArgument(h, "changeRate(-1)", () -> h.changeRate(-1));
        C.noArgument(h, "changeRate(101)", () -> h.changeRate(101));

        C.about("14 changeGrace");
        PledgeHouse g = Houses.borrowers(1, 800);
        g.pledge(1, 1, 10);
        g.lend(1, 800);
        g.setPrice(0, 99);
        C.due("changeGrace(24)", g.changeGrace(24), 6);
        C.due("hoursLeft of a call that goes on", g.hoursLeft(0), 6);
        g.setPrice(1, 99);
        C.due("hoursLeft of a new call", g.hoursLeft(1), 24);
        C.due("changeGrace(1)", g.changeGrace(1), 24);
        g.undo();
        C.due("grace after undo", g.grace(), 24);
        C.noArgument(g, "changeGrace(0)", () -> g.changeGrace(0));
        C.noArgument(g, "changeGrace(25)", () -> g.changeGrace(25));

        C.about("15 changeSlip");
        PledgeHouse s = Houses.borrowers(1, 800);
        C.due("changeSlip(19)", s.changeSlip(19), 5);
        s.pass(7);
        C.due("soldOf", s.soldOf(0), 7);
        C.due("repaid", s.repaid(), 7 * 81);
        C.due("changeSlip(0)", s.changeSlip(0), 19);
        C.due("changeSlip(50)", s.changeSlip(50), 0);
        s.undo();
        C.due("slip after undo", s.slip(), 0);
        C.noArgument(s, "changeSlip(-1)", () -> s.changeSlip(-1));
        C.noArgument(s, "changeSlip(51)", () -> s.changeSlip(51));

        C.about("16 turnOrder");
        PledgeHouse t = new PledgeHouse();
        C.due("turnOrder", t.turnOrder(), 1);
        C.due("turnOrder", t.turnOrder(), 2);
        C.due("turnOrder", t.turnOrder(), 0);
        t.undo();
        C.due("order after undo", t.order(), 2);
    }

    private static void texts() {
        buffer();
        syntaxErrors();
        follow();
        followRefused();
    }

    private static void buffer() {
        C.about("17 append, 18 clearBuffer");
        PledgeHouse h = new PledgeHouse();
        C.due("append(33)", h.append(33), 1);
        C.due("append(126)", h.append(126), 2);
        C.noArgument(h, "append(32)", () -> h.append(32));
        C.noArgument(h, "append(127)", () -> h.append(127));
        for (int length = 3; length <= 60; length++) {
            C.due("append", h.append('p'), length);
        }
        C.noState(h, "append to a full buffer", () -> h.append('p'));
        C.noArgument(h, "append(127) to a full buffer", () -> h.append(127));
        C.due("savedStates", h.savedStates(), 0);
        C.due("clearBuffer", h.clearBuffer(), 60);
        C.due("clearBuffer", h.clearBuffer(), 0);
        C.due("append", h.append('p'), 1);
    }

    private static void syntaxErrors() {
        C.about("19 firstError");
        String[] whole = {"p0=1", "p5=500", "c0=0", "c5=90", "c1=9", "+0:0*1", "-7:5*50", "l0=1", "b7=9999", "h1", "h100",
            "h1;h2", "p3=10;c3=10;+3:3*10;-3:3*10;l3=10;b3=10;h10"};
        for (String text : whole) {
            PledgeHouse h = Houses.typed(text);
            C.due("firstError of " + text, h.firstError(), text.length());
            C.that(text + " is not taken as orders", tellsOrders(h));
        }
        String[] unfinished = {"", "p", "p0", "p0=", "c", "c5=", "+", "+7", "+7:", "+7:5", "+7:5*", "-", "l", "l7", "l7=",
            "b", "b0=", "h", "h1;", "h1;p", "h1;p0=5;"};
        for (String text : unfinished) {
            PledgeHouse h = Houses.typed(text);
            C.due("firstError of " + text, h.firstError(), text.length());
            C.noArgument(h, "follow of " + text, () -> h.follow());
        }
        wrong("x", 0);
        wrong("0", 0);
        wrong("P", 0);
        wrong("=", 0);
        wrong(";", 0);
        wrong("p6", 1);
        wrong("p/", 1);
        wrong("p0:", 2);
        wrong("p0=0", 3);
        wrong("p0=501", 5);
        wrong("p0=5000", 6);
        wrong("p0=;", 3);
        wrong("p0=1x", 4);
        wrong("c6", 1);
        wrong("c0=91", 4);
        wrong("c0=00", 4);
        wrong("c0=01", 4);
        wrong("c0=100", 5);
        wrong("+8", 1);
        wrong("+0=", 2);
        wrong("+0:6", 3);
        wrong("+0:0=", 4);
        wrong("+0:0*0", 5);
        wrong("+0:0*51", 6);
        wrong("-0:0*51", 6);
        wrong("-8", 1);
        wrong("l8", 1);
        wrong("l0:", 2);
        wrong("l0=0", 3);
        wrong("l0=10000", 7);
        wrong("b0=10000", 7);
        wrong("b0=0", 3);
        wrong("h0", 1);
        wrong("h101", 3);
        wrong("h1000", 4);
        wrong("h1;;", 3);
        wrong("h1;1", 3);
        wrong("h;", 1);
        wrong("h5h5", 2);
    }

    /** Orders that are well written may still be refused because of the state. */
    private static boolean tellsOrders(PledgeHouse h) {
        try {
            h.follow();
        } catch (IllegalStateException refused) {
            return true;
        } catch (IllegalArgumentException noOrders) {
            return false;
        }
        return true;
    }

    private static void wrong(String text, int place) {
        PledgeHouse h = Houses.typed(text);
        C.due("firstError of " + text, h.firstError(), place);
        C.noArgument(h, "follow of " + text, () -> h.follow());
        C.due("clearBuffer behind " + text, h.clearBuffer(), text.length());
    }

    private static void follow() {
        C.about("20 follow");
        PledgeHouse h = Houses.typed("p1=50;c1=10;+0:1*20;-0:1*4;l0=720;b0=20;h1");
        C.due("follow", h.follow(), 0);
        C.due("priceOf", h.priceOf(1), 50);
        C.due("cutOf", h.cutOf(1), 10);
        C.due("piecesOf", h.piecesOf(0, 1), 16);
        C.due("debtOf", h.debtOf(0), 701);
        C.due("lent", h.lent(), 720);
        C.due("repaid", h.repaid(), 20);
        C.due("hours", h.hours(), 1);
        C.due("clearBuffer", h.clearBuffer(), 0);
        C.due("savedStates", h.savedStates(), 1);
        Houses.type(h, "p1=1");
        C.due("follow that calls", h.follow(), 1);
        Houses.type(h, "c2=0");
        C.due("follow tells who is called then", h.follow(), 1);
        Houses.type(h, "p1=50;p1=1");
        C.due("follow that looks behind each order", h.follow(), 1);
        C.due("calls", h.calls(), 2);
        h.undo();
        C.due("calls after undo", h.calls(), 1);
        C.due("clearBuffer after undo", h.clearBuffer(), 0);
    }

    private static void followRefused() {
        C.about("20 follow, a full buffer");
        PledgeHouse full = Houses.typed("h1;".repeat(18) + "h1;h10");
        C.due("firstError of a full buffer", full.firstError(), 60);
        C.due("follow of a full buffer", full.follow(), 0);
        C.due("hours", full.hours(), 29);
        PledgeHouse open = Houses.typed("h1;".repeat(20));
        C.due("firstError of a full buffer that is not at an end", open.firstError(), 60);
        C.noArgument(open, "follow of a full buffer that is not at an end", () -> open.follow());
        C.about("20 follow, all or nothing");
        refused("p1=50;+0:0*50;+0:0*50");
        refused("p1=50;-0:0*1");
        refused("h1;l0=1");
        refused("h1;b0=1");
        refused("+0:0*10;l0=800;-0:0*1");
        PledgeHouse barred = Houses.lossMaker();
        Houses.type(barred, "+0:0*10;l0=1");
        C.noState(barred, "follow of a loan to one who is barred", () -> barred.follow());
        C.due("clearBuffer", barred.clearBuffer(), 12);
    }

    private static void refused(String text) {
        PledgeHouse h = Houses.typed(text);
        C.noState(h, "follow of " + text, () -> h.follow());
        C.due("clearBuffer behind " + text, h.clearBuffer(), text.length());
        C.due("savedStates behind " + text, h.savedStates(), 0);
    }

    private static void snapshotsAndUndo() {
        C.about("21 keep, 22 goBack");
        PledgeHouse h = Houses.borrowers(1, 500);
        h.keep(0);
        int saved = h.savedStates();
        h.changeRate(50);
        h.keep(1);
        h.changeSlip(9);
        h.append('p');
        C.due("savedStates behind keep", h.savedStates(), saved + 2);
        h.goBack(0);
        C.due("rate", h.rate(), 10);
        C.due("slip", h.slip(), 5);
        C.due("debtOf", h.debtOf(0), 500);
        C.due("clearBuffer", h.clearBuffer(), 1);
        h.goBack(1);
        C.due("rate", h.rate(), 50);
        h.undo();
        C.due("rate after undo", h.rate(), 10);
        h.changeRate(70);
        h.keep(0);
        h.changeRate(71);
        h.goBack(0);
        h.changeRate(72);
        h.goBack(0);
        C.due("rate of the later snapshot", h.rate(), 70);
        C.noArgument(h, "keep(2)", () -> h.keep(2));
        C.noArgument(h, "keep(-1)", () -> h.keep(-1));
        C.noArgument(h, "goBack(2)", () -> h.goBack(2));
        C.noArgument(h, "goBack(-1)", () -> h.goBack(-1));
        PledgeHouse half = new PledgeHouse();
        half.keep(1);
        C.noState(half, "goBack(0)", () -> half.goBack(0));
        half.goBack(1);
        C.due("savedStates behind goBack", half.savedStates(), 1);

        C.about("23 undo, 24 savedStates");
        PledgeHouse u = new PledgeHouse();
        for (int turn = 1; turn <= 8; turn++) {
            u.changeRate(turn);
            C.due("savedStates", u.savedStates(), turn < 6 ? turn : 6);
        }
        for (int turn = 7; turn >= 2; turn--) {
            u.undo();
            C.due("rate", u.rate(), turn);
            C.due("savedStates", u.savedStates(), turn - 2);
        }
        C.noState(u, "undo", () -> u.undo());
        eachSaves();
        u.changeRate(2);
        C.due("savedStates behind a call that changes nothing", u.savedStates(), 1);
        wholeStateIsRestored();
    }

    private static void eachSaves() {
        saves("setPrice", h -> h.setPrice(1, 100));
        saves("setCut", h -> h.setCut(1, 20));
        saves("fall", h -> h.fall(1));
        saves("pledge", h -> h.pledge(0, 0, 1));
        saves("release", h -> h.release(0, 0, 1));
        saves("deposit", h -> h.deposit(0, 2));
        saves("withdraw", h -> h.withdraw(0, 1));
        saves("lend", h -> h.lend(0, 1));
        saves("payBack", h -> h.payBack(0, 1));
        saves("readmit", h -> h.readmit(1));
        saves("pass", h -> h.pass(1));
        saves("changeRate", h -> h.changeRate(10));
        saves("changeGrace", h -> h.changeGrace(6));
        saves("changeSlip", h -> h.changeSlip(5));
        saves("turnOrder", h -> h.turnOrder());
        saves("follow", h -> h.follow());
        saves("goBack", h -> h.goBack(0));
    }

    /** Client 1 is barred; client 0 was, and has umbrellas, coins and a debt again; one state is saved. */
    private static void saves(String call, Consumer<PledgeHouse> run) {
        PledgeHouse h = Houses.borrowers(2, 400);
        h.changeGrace(1);
        h.setPrice(0, 10);
        h.pass(1);
        h.readmit(0);
        h.pledge(0, 0, 5);
        h.deposit(0, 50);
        h.lend(0, 40);
        h.keep(0);
        while (h.savedStates() > 0) {
            h.undo();
        }
        h.goBack(0);
        long before = h.digest();
        Houses.type(h, "h1;p0=5;p0=50");
        run.accept(h);
        C.due("savedStates behind " + call, h.savedStates(), 2);
        h.undo();
        h.clearBuffer();
        C.due("digest behind the undo of " + call, h.digest(), before);
    }

    private static void wholeStateIsRestored() {
        PledgeHouse h = Houses.busy();
        h.keep(0);
        long busy = h.digest();
        int saved = h.savedStates();
        C.due("savedStates", saved, 6);
        h.pass(100);
        h.turnOrder();
        h.undo();
        h.undo();
        h.changeGrace(3);
        h.changeGrace(3);
        h.goBack(0);
        C.due("digest behind goBack", h.digest(), busy);
    }

    private static void kindsAndClients() {
        PledgeHouse h = Houses.busy();
        C.about("25 to 29, 36 wrong kinds and clients");
        for (int wrong : new int[] {-1, 6, Integer.MAX_VALUE, Integer.MIN_VALUE}) {
            C.noPlace(h, "priceOf", () -> h.priceOf(wrong));
            C.noPlace(h, "cutOf", () -> h.cutOf(wrong));
            C.noPlace(h, "pledgedOf", () -> h.pledgedOf(wrong));
            C.noPlace(h, "soldOf", () -> h.soldOf(wrong));
            C.noPlace(h, "piecesOf", () -> h.piecesOf(0, wrong));
        }
        C.about("29 to 50 wrong clients and places");
        for (int wrong : new int[] {-1, 8, Integer.MAX_VALUE, Integer.MIN_VALUE}) {
            C.noPlace(h, "piecesOf", () -> h.piecesOf(wrong, 0));
            C.noPlace(h, "coinsOf", () -> h.coinsOf(wrong));
            C.noPlace(h, "debtOf", () -> h.debtOf(wrong));
            C.noPlace(h, "worthOf", () -> h.worthOf(wrong));
            C.noPlace(h, "coverOf", () -> h.coverOf(wrong));
            C.noPlace(h, "roomOf", () -> h.roomOf(wrong));
            C.noPlace(h, "isCalled", () -> h.isCalled(wrong));
            C.noPlace(h, "hoursLeft", () -> h.hoursLeft(wrong));
            C.noPlace(h, "isBarred", () -> h.isBarred(wrong));
            C.noPlace(h, "rankOf", () -> h.rankOf(wrong));
            C.noPlace(h, "riskyBySorting", () -> h.riskyBySorting(wrong));
            C.noPlace(h, "riskyByTaking", () -> h.riskyByTaking(wrong));
            C.noPlace(h, "fallToCallByTrying", () -> h.fallToCallByTrying(wrong));
            C.noPlace(h, "fallToCallByHalving", () -> h.fallToCallByHalving(wrong));
            C.noPlace(h, "hoursToCall", () -> h.hoursToCall(wrong));
            C.noPlace(h, "wouldSell", () -> h.wouldSell(wrong));
            C.noPlace(h, "wouldLose", () -> h.wouldLose(wrong));
        }
        whatClientsHave();
    }

    private static void whatClientsHave() {
        C.about("25 to 37 kinds and clients as they are");
        PledgeHouse h = new PledgeHouse();
        h.setPrice(0, 33);
        h.setCut(0, 50);
        h.setPrice(5, 77);
        h.setCut(5, 33);
        h.pledge(6, 0, 1);
        h.pledge(6, 5, 1);
        h.pledge(7, 5, 2);
        h.deposit(6, 9);
        C.due("priceOf", h.priceOf(5), 77);
        C.due("cutOf", h.cutOf(5), 33);
        C.due("pledgedOf", h.pledgedOf(5), 3);
        C.due("soldOf", h.soldOf(5), 0);
        C.due("piecesOf", h.piecesOf(7, 5), 2);
        C.due("piecesOf", h.piecesOf(6, 0), 1);
        C.due("coinsOf", h.coinsOf(6), 9);
        C.due("worthOf", h.worthOf(6), 33 + 77 + 9);
        // 33 * 50 + 77 * 67 = 6809 hundredths: divided kind by kind they would come to 67.
        C.due("coverOf", h.coverOf(6), 68 + 9);
        C.due("roomOf", h.roomOf(6), 77);
        h.lend(6, 70);
        C.due("debtOf", h.debtOf(6), 70);
        C.due("roomOf", h.roomOf(6), 7);
        C.due("isCalled", h.isCalled(6), false);
        C.noState(h, "hoursLeft", () -> h.hoursLeft(6));
        h.setCut(5, 90);
        C.due("roomOf one who owes more", h.roomOf(6), 0);
        C.due("isCalled", h.isCalled(6), true);
        C.due("hoursLeft", h.hoursLeft(6), 6);
        C.due("isBarred", h.isBarred(6), false);
        PledgeHouse barred = Houses.lossMaker();
        barred.deposit(0, 10);
        C.due("roomOf one who is barred", barred.roomOf(0), 0);
        C.due("coverOf one who is barred", barred.coverOf(0), 10);
    }

    private static void risk() {
        C.about("38 rankOf, 39 riskyBySorting, 40 riskyByTaking");
        PledgeHouse h = new PledgeHouse();
        int[] debts = {0, 333, 0, 667, 333, 999, 0, 1};
        for (int client = 0; client < 8; client++) {
            h.deposit(client, client == 3 ? 2000 : 1000);
            if (debts[client] > 0) {
                h.lend(client, debts[client]);
            }
        }
        // 2000 / 667 is less than 1000 / 333 by a little; equal ones stand by their numbers.
        int[] order = {5, 3, 1, 4, 7, 0, 2, 6};
        for (int place = 0; place < 8; place++) {
            C.due("riskyBySorting(" + place + ")", h.riskyBySorting(place), order[place]);
            C.due("riskyByTaking(" + place + ")", h.riskyByTaking(place), order[place]);
            C.due("rankOf(" + order[place] + ")", h.rankOf(order[place]), place);
        }
        C.about("41 calledNow");
        C.due("calledNow", h.calledNow(), 0);
        h.pass(2);
        C.due("calledNow", h.calledNow(), 1);
        C.due("rankOf one who owes more than is covered", h.rankOf(5), 0);
        PledgeHouse bare = new PledgeHouse();
        bare.deposit(6, 100);
        bare.lend(6, 1);
        C.due("riskyBySorting of one who owes, ahead of those without anything", bare.riskyBySorting(0), 6);
        C.due("riskyByTaking of one who owes, ahead of those without anything", bare.riskyByTaking(0), 6);
        C.due("rankOf one who owes, ahead of those without anything", bare.rankOf(6), 0);
        C.due("rankOf one without anything", bare.rankOf(7), 7);
    }

    private static void rules() {
        C.about("42 to 45 rules");
        PledgeHouse h = new PledgeHouse();
        C.due("rate", h.rate(), 10);
        C.due("grace", h.grace(), 6);
        C.due("slip", h.slip(), 5);
        C.due("order", h.order(), 0);
        h.changeRate(77);
        h.changeGrace(7);
        h.changeSlip(17);
        h.turnOrder();
        C.due("rate", h.rate(), 77);
        C.due("grace", h.grace(), 7);
        C.due("slip", h.slip(), 17);
        C.due("order", h.order(), 1);
    }

    private static void whatWouldBe() {
        falls();
        hoursToCall();
        sales();
        calledIfFallen();
    }

    private static void falls() {
        C.about("46 fallToCallByTrying, 47 fallToCallByHalving");
        callingFall(Houses.borrowers(1, 800), 1);
        callingFall(Houses.borrowers(1, 400), 51);
        callingFall(Houses.borrowers(1, 1), 100);
        PledgeHouse cheap = new PledgeHouse();
        cheap.setPrice(0, 2);
        cheap.pledge(0, 0, 10);
        cheap.lend(0, 9);
        callingFall(cheap, 1);
        cheap.payBack(0, 1);
        // A price of 2 is 1 down to a half of it, and 0 below that.
        callingFall(cheap, 51);
        PledgeHouse called = Houses.borrowers(1, 800);
        called.setPrice(0, 99);
        callingFall(called, 0);
        PledgeHouse safe = Houses.borrowers(1, 50);
        safe.deposit(0, 50);
        C.noState(safe, "fallToCallByTrying", () -> safe.fallToCallByTrying(0));
        C.noState(safe, "fallToCallByHalving", () -> safe.fallToCallByHalving(0));
        safe.withdraw(0, 1);
        callingFall(safe, 100);
        C.noState(safe, "fallToCallByTrying without debt", () -> safe.fallToCallByTrying(1));
        C.noState(safe, "fallToCallByHalving without debt", () -> safe.fallToCallByHalving(1));
    }

    private static void callingFall(PledgeHouse h, int percent) {
        long before = h.digest();
        C.due("fallToCallByTrying", h.fallToCallByTrying(0), percent);
        C.due("fallToCallByHalving", h.fallToCallByHalving(0), percent);
        C.due("digest", h.digest(), before);
    }

    private static void hoursToCall() {
        C.about("48 hoursToCall");
        C.due("hoursToCall", Houses.borrowers(1, 800).hoursToCall(0), 1);
        C.due("hoursToCall", Houses.borrowers(1, 799).hoursToCall(0), 2);
        PledgeHouse h = new PledgeHouse();
        h.deposit(0, 999);
        h.lend(0, 1);
        C.due("hoursToCall at the end", h.hoursToCall(0), 999);
        h.deposit(0, 1);
        C.noState(h, "hoursToCall beyond the end", () -> h.hoursToCall(0));
        C.noState(h, "hoursToCall without debt", () -> h.hoursToCall(1));
        h.changeRate(0);
        h.lend(0, 999);
        C.noState(h, "hoursToCall without interest", () -> h.hoursToCall(0));
        PledgeHouse called = Houses.borrowers(1, 800);
        called.setPrice(0, 99);
        C.due("hoursToCall of one who is called", called.hoursToCall(0), 0);
    }

    private static void sales() {
        C.about("49 wouldSell, 50 wouldLose");
        PledgeHouse h = threeKinds();
        long before = h.digest();
        C.due("wouldSell", h.wouldSell(0), 1);
        C.due("wouldLose", h.wouldLose(0), 0);
        C.due("digest", h.digest(), before);
        h.turnOrder();
        // 406 are owed yet: 311 after the first, 310 are covered by the others.
        C.due("wouldSell by the least cut", h.wouldSell(0), 2);
        PledgeHouse lossy = Houses.borrowers(1, 800);
        lossy.deposit(0, 5);
        lossy.setPrice(0, 50);
        C.due("wouldSell all", lossy.wouldSell(0), 10);
        C.due("wouldLose the rest", lossy.wouldLose(0), 800 - 5 - 10 * 47);
        lossy.setPrice(0, 1);
        lossy.changeSlip(1);
        C.due("wouldLose if sales bring nothing", lossy.wouldLose(0), 795);
        C.due("wouldSell of one who is covered", Houses.borrowers(1, 500).wouldSell(0), 0);
        C.due("wouldLose of one who is covered", Houses.borrowers(1, 500).wouldLose(0), 0);
        C.due("wouldSell of one without debt", h.wouldSell(7), 0);
        C.due("wouldLose of one without debt", h.wouldLose(7), 0);
    }

    private static void calledIfFallen() {
        C.about("51 calledIfFallen");
        PledgeHouse h = new PledgeHouse();
        for (int client = 0; client < 8; client++) {
            h.pledge(client, 0, 10);
            h.lend(client, (client + 1) * 100);
        }
        C.due("calledIfFallen(1)", h.calledIfFallen(1), 1);
        C.due("calledIfFallen(50)", h.calledIfFallen(50), 4);
        C.due("calledIfFallen(90)", h.calledIfFallen(90), 8);
        h.setPrice(0, 99);
        C.due("calledIfFallen counts those called", h.calledIfFallen(1), 1);
        PledgeHouse cheap = new PledgeHouse();
        cheap.setPrice(0, 1);
        cheap.pledge(0, 0, 50);
        cheap.lend(0, 40);
        C.due("calledIfFallen at the least price", cheap.calledIfFallen(90), 0);
        C.noArgument(h, "calledIfFallen(0)", () -> h.calledIfFallen(0));
        C.noArgument(h, "calledIfFallen(91)", () -> h.calledIfFallen(91));
    }

    private static void accounts() {
        C.about("52 to 60 accounts");
        PledgeHouse h = Houses.borrowers(2, 800);
        h.pass(7);
        h.payBack(1, 100);
        C.due("hours", h.hours(), 7);
        C.due("lent", h.lent(), 1600);
        C.due("interest", h.interest(), 14);
        C.due("repaid", h.repaid(), 95 + 95 + 100);
        C.due("lost", h.lost(), 0);
        C.due("calls", h.calls(), 2);
        C.due("soldOut", h.soldOut(), 2);
        C.due("debtsByClients", h.debtsByClients(), 1600 + 14 - 290);
        C.due("debtsByAccount", h.debtsByAccount(), 1600 + 14 - 290);
        PledgeHouse lossy = Houses.lossMaker();
        C.due("lent", lossy.lent(), 800);
        C.due("interest", lossy.interest(), 1);
        C.due("repaid", lossy.repaid(), 10 * 9);
        C.due("lost", lossy.lost(), 801 - 90);
        C.due("calls", lossy.calls(), 1);
        C.due("soldOut", lossy.soldOut(), 1);
        C.due("debtsByClients", lossy.debtsByClients(), 0);
        C.due("debtsByAccount", lossy.debtsByAccount(), 0);
        C.about("61 usedShare");
        C.due("usedShare without cover", new PledgeHouse().usedShare(), 0.0);
        C.due("usedShare", h.usedShare(), 1324.0 / (18 * 80));
        h.setPrice(0, 1);
        C.due("usedShare of more than is covered", h.usedShare(), 1324.0 / 14);
        PledgeHouse bare = new PledgeHouse();
        bare.setPrice(0, 10);
        bare.pledge(0, 0, 1);
        bare.lend(0, 8);
        bare.setPrice(0, 1);
        C.due("usedShare of debts without cover", bare.usedShare(), 0.0);
        digest();
    }

    private static void digest() {
        C.about("62 digest");
        PledgeHouse h = new PledgeHouse();
        C.due("digest of a new house", h.digest(), PlainDigest.of(h, "", 0, 0));
        PledgeHouse busy = Houses.busy();
        C.due("digest", busy.digest(), PlainDigest.of(busy, "", 0, 0));
        Houses.type(busy, "p0=~");
        busy.keep(1);
        C.due("digest", busy.digest(), PlainDigest.of(busy, "p0=~", 0, 1));
        busy.keep(0);
        busy.pass(50);
        C.due("digest", busy.digest(), PlainDigest.of(busy, "p0=~", 1, 1));
        PledgeHouse lossy = Houses.lossMaker();
        C.due("digest", lossy.digest(), PlainDigest.of(lossy, "", 0, 0));
        for (int debt = 1; debt <= 800; debt += 47) {
            PledgeHouse share = Houses.borrowers(1, debt);
            C.due("digest with a debt of " + debt, share.digest(), PlainDigest.of(share, "", 0, 0));
            share.setPrice(0, 1);
            C.due("digest with a debt of " + debt, share.digest(), PlainDigest.of(share, "", 0, 0));
        }
    }
}
