import java.util.HashSet;
import java.util.Set;

/** Promises 17 to 20, and what "Input text" says. */
final class TextEdges extends Edges {
    private static final String FULL = "h1;".repeat(18) + "h1;h10";

    @Override
    void tell() {
        append();
        clearBuffer();
        firstError();
        follow();
        inputText();
    }

    private static void append() {
        promise(17);
        noEdge("Appends a character to the buffer.");
        says("- `code`: the character code, 33 to 126");
        // The code is the last value of the digest, so digests of buffers with one character differ by their codes.
        long first = Houses.typed("!").digest();
        takes(33, 126, PledgeHouse::new, PledgeHouse::append, (x, v) -> x.digest() - first, (x, v) -> v - 33);
        says("Returns the new length of the buffer.");
        PledgeHouse h = new PledgeHouse();
        for (int length = 1; length <= 60; length++) {
            due("append", h.append('~'), length);
        }
        h.clearBuffer();
        due("append to a buffer that is cleared", h.append('~'), 1);
        says("Throws `IllegalArgumentException` if code is not 33 to 126");
        refusesBeside(33, 126, new PledgeHouse(), NO_ARGUMENT, PledgeHouse::append);
        refusesBeside(33, 126, Houses.typed("h1"), NO_ARGUMENT, PledgeHouse::append);
        refuses(Houses.typed("h1"), NO_ARGUMENT, PledgeHouse::append, 0, 10, 31, 128, 255);
        says("Throws `IllegalStateException` if the buffer has 60 characters");
        PledgeHouse full = Houses.typed("x".repeat(59));
        due("the last one", full.append('x'), 60);
        refuses(full, NO_STATE, PledgeHouse::append, 33, 'x', 126);
        full.clearBuffer();
        due("append to a buffer that is cleared", full.append('x'), 1);
        PledgeHouse followed = Houses.typed(FULL);
        refuses(followed, NO_STATE, PledgeHouse::append, ';');
        followed.follow();
        due("append to a buffer that is followed", followed.append('x'), 1);
    }

    private static void clearBuffer() {
        promise(18);
        says("Clears the buffer.");
        for (String text : new String[] {"", "x", "h1", FULL}) {
            PledgeHouse h = Houses.typed(text);
            h.clearBuffer();
            due("digest", h.digest(), new PledgeHouse().digest());
        }
        says("Returns the length that it had.");
        for (int length : new int[] {0, 1, 59, 60}) {
            PledgeHouse h = Houses.typed("x".repeat(length));
            due("clearBuffer", h.clearBuffer(), length);
            due("clearBuffer again", h.clearBuffer(), 0);
        }
    }

    private static void firstError() {
        promise(19);
        says("Finds the first syntax error of the buffer.");
        due("the first of two", Houses.typed("p6=501").firstError(), 1);
        due("what would be right behind it", Houses.typed("xh1;h1").firstError(), 0);
        due("in a later part", Houses.typed("h1;h1;h101;x").firstError(), 9);
        says("Returns the index of the first character that is a syntax error; the length of the buffer if there is none.");
        due("an empty buffer", new PledgeHouse().firstError(), 0);
        due("the only character", Houses.typed("x").firstError(), 0);
        due("no error", Houses.typed("h").firstError(), 1);
        due("no error in a full buffer", Houses.typed(FULL).firstError(), 60);
        due("the last character of a full buffer", Houses.typed(FULL.substring(0, 59) + "x").firstError(), 59);
        due("the first character of a full buffer", Houses.typed("x" + FULL.substring(1)).firstError(), 0);
        PledgeHouse again = Houses.typed("h1;x");
        due("firstError", again.firstError(), 3);
        due("firstError again", again.firstError(), 3);
        again.clearBuffer();
        due("firstError of a buffer that is cleared", again.firstError(), 0);
        Houses.type(again, "h1");
        due("firstError of a new text", again.firstError(), 2);
    }

    private static void follow() {
        promise(20);
        says("Follows the orders of the buffer as setPrice(), setCut(), pledge(), release(), lend(), payBack() and pass() "
                + "do, one after the other, all or nothing, and clears the buffer.");
        followsAsMethodsDo();
        followsAllOrNothing();
        says("Undoable, as one call.");
        PledgeHouse u = Houses.typed("p0=99;p0=98;h1");
        long before = Houses.typed("").digest();
        u.follow();
        due("savedStates", u.savedStates(), 1);
        u.undo();
        due("digest", u.digest(), before);
        refuses(Houses.typed("p0=99;l0=1"), NO_STATE, PledgeHouse::follow);
        PledgeHouse same = Houses.typed("p0=100");
        same.follow();
        due("savedStates, though nothing is changed", same.savedStates(), 1);
        says("Returns how many clients are called then.");
        due("nobody", Houses.follow(new PledgeHouse(), "p0=1"), 0);
        due("all of them", Houses.follow(Houses.borrowers(8, 800), "p0=99"), 8);
        due("those who were called already", Houses.follow(Houses.allCalled(), "p1=99"), 8);
        due("nobody, as all are covered again", Houses.follow(Houses.allCalled(), "p0=100"), 0);
        due("nobody, as all are covered in the end", Houses.follow(Houses.borrowers(8, 800), "p0=99;p0=100"), 0);
        due("all but one", Houses.follow(Houses.allCalled(), "b3=8"), 7);
        says("Throws `IllegalArgumentException` if the buffer does not tell orders as a text");
        for (String text : new String[] {"", "p", "p0", "p0=", "h", ";", "h1;", "h1;h", "h1;h1;", "x", "h1x", "h0", "h101",
            "p0=501", "c0=91", "l0=10000", "+0:0*51", "h1;x", "h1;;h1", FULL.substring(0, 57) + ";", "h1;".repeat(20)}) {
            refuses(Houses.typed(text), NO_ARGUMENT, PledgeHouse::follow);
        }
        says("Throws `IllegalStateException` if one of these methods would throw any exception, when its turn comes");
        followRefused();
    }

    private static void followsAsMethodsDo() {
        PledgeHouse byText = Houses.full();
        PledgeHouse byCalls = Houses.full();
        Houses.follow(byText, "p5=500;c0=90;+7:5*50;-0:0*5;l7=9999;b0=9999;h100");
        byCalls.setPrice(5, 500);
        byCalls.setCut(0, 90);
        byCalls.pledge(7, 5, 50);
        byCalls.release(0, 0, 5);
        byCalls.lend(7, 9999);
        byCalls.payBack(0, 9999);
        byCalls.pass(100);
        due("digest", byText.digest(), byCalls.digest());
        due("clearBuffer", byText.clearBuffer(), 0);
        PledgeHouse one = Houses.typed("p0=1;p0=2;p0=3");
        one.follow();
        due("the last of three prices", one.priceOf(0), 3);
        PledgeHouse full = Houses.typed(FULL);
        full.follow();
        due("a full buffer", full.hours(), 29);
    }

    private static void followsAllOrNothing() {
        PledgeHouse h = Houses.allCalled();
        h.keep(1);
        Houses.type(h, "p1=7;c1=7;+0:1*7;b0=7;h100;-7:5*1");
        refuses(h, NO_STATE, PledgeHouse::follow);
        due("clearBuffer", h.clearBuffer(), 33);
        h.undo();
        due("the latest state is the one from before the last change", h.priceOf(0), 100);
        h.goBack(1);
        due("priceOf", h.priceOf(0), 99);
    }

    private static void followRefused() {
        for (String text : new String[] {"+0:0*50;+0:0*50", "+0:0*50;+0:0*49;+0:0*1", "-0:0*1", "+0:0*1;-0:0*2", "l0=1",
            "+0:0*1;l0=81", "b0=1", "+0:0*1;l0=80;b0=80;b0=1", "+0:0*2;l0=81;-0:0*1", "l0=80;+0:0*1", "h1;h1;b7=9999",
            "+0:0*1;l0=80;p0=1;h7;+0:1*50;l0=1", "+0:0*1;l0=80;h1;l0=1", "+0:0*1;l0=80;h1;-0:0*1"}) {
            refuses(Houses.typed(text), NO_STATE, PledgeHouse::follow);
        }
        for (String text : new String[] {"+0:0*50;+0:0*49", "+0:0*1;-0:0*1", "+0:0*1;l0=80", "+0:0*1;l0=80;b0=80",
            "+0:0*50;-0:0*1;+0:0*50", "+0:0*2;l0=80;-0:0*1", "+0:0*1;l0=80;h1;b0=1;p0=150;l0=1"}) {
            PledgeHouse h = Houses.typed(text);
            h.follow();
            due("what could not be done ahead of its turn: " + text, h.clearBuffer(), 0);
        }
    }

    private static void inputText() {
        section("Input text");
        says("The buffer has at most 60 characters.");
        PledgeHouse h = Houses.typed(FULL);
        refuses(h, NO_STATE, x -> x.append('0'));
        due("clearBuffer", h.clearBuffer(), 60);
        says("Orders as a text are one or more parts with \";\" between them: \"p\", the digit of a kind, 0 to 5, \"=\", and "
                + "a price, 1 to 500 (it is set); \"c\", a kind, \"=\", and a cut, 0 to 90 (it is set); \"+\" or \"-\", the "
                + "digit of a client, 0 to 7, \":\", a kind, \"*\", and 1 to 50 (so many are pledged, or released); \"l\" or "
                + "\"b\", a client, \"=\", and 1 to 9999 (so much is lent, or paid back); or \"h\" and 1 to 100 (so many hours "
                + "go by).");
        parts();
        signs();
        numbers();
        orders();
        says("Numbers are without leading zeros.");
        String[] zeros = {"p0=0", "p0=01", "p0=001", "c0=00", "c0=01", "c0=000", "+0:0*0", "+0:0*01", "-0:0*01", "l0=0",
            "l0=01", "b0=01", "h0", "h01", "h00"};
        int[] places = {3, 3, 3, 4, 4, 4, 5, 5, 5, 3, 3, 3, 1, 1, 1};
        for (int text = 0; text < zeros.length; text++) {
            due("firstError of " + zeros[text], Houses.typed(zeros[text]).firstError(), places[text]);
        }
        for (String text : new String[] {"c0=0", "p0=10", "p0=500", "c0=10", "+0:0*10", "l0=1000", "h100"}) {
            due("firstError of " + text, Houses.typed(text).firstError(), text.length());
        }
        says("The buffer is read from left to right; a character is a syntax error if no orders as a text, of any length, "
                + "begin with the characters before it and this character.");
        // What would end only behind the 60th character is no error.
        for (String end : new String[] {"", "p", "p5", "p5=", "c", "c0", "c0=", "+", "+7", "+7:", "+7:5", "+7:5*", "-", "-0:0*",
            "l", "l7", "l7=", "b", "b0=", "h"}) {
            String text = ended(60 - end.length()) + end;
            PledgeHouse h60 = Houses.typed(text);
            due("firstError of " + text, h60.firstError(), 60);
            refuses(h60, NO_ARGUMENT, PledgeHouse::follow);
        }
        due("an error stays one, whatever comes behind it", Houses.typed("p0=501;p0=1").firstError(), 5);
        due("a 5 may be the first digit of 500, a 6 is none of more than two", Houses.typed("p0=600").firstError(), 5);
        due("a 9 may be the first digit of 90", Houses.typed("c0=92").firstError(), 4);
        due("10 may be the beginning of 100", Houses.typed("h101").firstError(), 3);
        due("11 is not", Houses.typed("h110").firstError(), 3);
    }

    /** Parts with a ";" behind each, of that length as a whole. */
    private static String ended(int length) {
        String last = length % 3 == 0 ? "h1;" : length % 3 == 1 ? "h10;" : "h100;";
        return "h1;".repeat((length - last.length()) / 3) + last;
    }

    private static void parts() {
        due("one part", Houses.follow(new PledgeHouse(), "h1"), 0);
        PledgeHouse many = Houses.typed("h1;".repeat(19) + "h1");
        due("firstError", many.firstError(), 59);
        many.follow();
        due("hours behind 20 parts", many.hours(), 20);
        due("no part", Houses.typed(";").firstError(), 0);
        due("no part in between", Houses.typed("h1;;h1").firstError(), 3);
        due("no part ahead", Houses.typed(";h1").firstError(), 0);
        due("nothing between two parts", Houses.typed("h1h1").firstError(), 2);
        due("another sign between two parts", Houses.typed("h1,h1").firstError(), 2);
    }

    /** Each sign, 33 to 126, at each place of a part: just those that are named are right. */
    private static void signs() {
        signsBehind("", "pc+-lbh");
        signsBehind("h1;", "pc+-lbh");
        for (String letter : new String[] {"p", "c"}) {
            signsBehind(letter, "012345");
            signsBehind(letter + "5", "=");
        }
        for (String letter : new String[] {"+", "-"}) {
            signsBehind(letter, "01234567");
            signsBehind(letter + "7", ":");
            signsBehind(letter + "7:", "012345");
            signsBehind(letter + "7:5", "*");
            signsBehind(letter + "7:5*", "123456789");
            signsBehind(letter + "7:5*4", ";0123456789");
            signsBehind(letter + "7:5*5", ";0");
            signsBehind(letter + "7:5*50", ";");
            signsBehind(letter + "7:5*6", ";");
        }
        for (String letter : new String[] {"l", "b"}) {
            signsBehind(letter, "01234567");
            signsBehind(letter + "7", "=");
            signsBehind(letter + "7=", "123456789");
            signsBehind(letter + "7=999", ";0123456789");
            signsBehind(letter + "7=9999", ";");
        }
        signsBehind("p5=", "123456789");
        signsBehind("p5=50", ";0");
        signsBehind("p5=500", ";");
        signsBehind("c5=", "0123456789");
        signsBehind("c5=0", ";");
        signsBehind("c5=8", ";0123456789");
        signsBehind("c5=9", ";0");
        signsBehind("c5=90", ";");
        signsBehind("h", "123456789");
        signsBehind("h10", ";0");
        signsBehind("h100", ";");
    }

    private static void signsBehind(String text, String right) {
        for (char sign = 33; sign <= 126; sign++) {
            int place = text.length() + (right.indexOf(sign) >= 0 ? 1 : 0);
            due("firstError of " + text + sign, Houses.typed(text + sign).firstError(), place);
        }
    }

    private static void numbers() {
        numbersBehind("p0=", 1, 500);
        numbersBehind("p5=", 1, 500);
        numbersBehind("c0=", 0, 90);
        numbersBehind("+0:0*", 1, 50);
        numbersBehind("-7:5*", 1, 50);
        numbersBehind("l0=", 1, 9999);
        numbersBehind("b7=", 1, 9999);
        numbersBehind("h", 1, 100);
    }

    /** A number goes wrong at the first digit with which no number of the range begins. */
    private static void numbersBehind(String text, int least, int most) {
        Set<String> beginnings = new HashSet<>();
        for (int number = least; number <= most; number++) {
            String digits = String.valueOf(number);
            for (int end = 1; end <= digits.length(); end++) {
                beginnings.add(digits.substring(0, end));
            }
        }
        for (int number = 0; number <= 10 * most + 10; number += number < most + 20 ? 1 : 7) {
            String digits = String.valueOf(number);
            int right = 0;
            while (right < digits.length() && beginnings.contains(digits.substring(0, right + 1))) {
                right++;
            }
            due("firstError of " + text + digits, Houses.typed(text + digits).firstError(), text.length() + right);
        }
    }

    private static void orders() {
        PledgeHouse h = Houses.typed("p0=1;p5=500;c0=0;c5=90");
        h.follow();
        kinds(h, PledgeHouse::priceOf, 1, 100, 100, 100, 100, 500);
        kinds(h, PledgeHouse::cutOf, 0, 20, 20, 20, 20, 90);
        Houses.follow(h, "+0:0*1;+7:5*50;+7:4*50;-7:4*50;+0:4*2;-0:4*1");
        kinds(h, (x, kind) -> x.piecesOf(0, kind), 1, 0, 0, 0, 1, 0);
        kinds(h, (x, kind) -> x.piecesOf(7, kind), 0, 0, 0, 0, 0, 50);
        h.deposit(7, 9999);
        Houses.follow(h, "l0=1;l7=9999");
        clients(h, PledgeHouse::debtOf, 1, 0, 0, 0, 0, 0, 0, 9999);
        Houses.follow(h, "b0=1;b7=9999");
        clients(h, PledgeHouse::debtOf, 0);
        Houses.follow(h, "h1");
        due("hours", h.hours(), 1);
        Houses.follow(h, "h100");
        due("hours", h.hours(), 101);
    }
}
