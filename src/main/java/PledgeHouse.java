import java.util.Arrays;

/** A house that lends coins to clients on borrowed umbrellas; ../shared/DOC.md says what it promises. */
public final class PledgeHouse {
    private static final int KINDS = 6;
    private static final int CLIENTS = 8;
    private static final int SLOTS = 2;
    private static final int MOST_SAVED = 6;
    private static final int MOST_CHARACTERS = 60;

    private static final int LEAST_PRICE = 1;
    private static final int MOST_PRICE = 500;
    private static final int MOST_CUT = 90;
    private static final int MOST_PIECES_AT_ONCE = 50;
    private static final int MOST_PIECES = 99;
    private static final int MOST_COINS_AT_ONCE = 9999;
    private static final int MOST_COINS = 99999;
    private static final int MOST_HOURS_AT_ONCE = 100;
    private static final int MOST_RATE = 100;
    private static final int MOST_GRACE = 24;
    private static final int MOST_SLIP = 50;
    private static final int MOST_FALL = 90;
    private static final int WHOLE_FALL = 100;
    private static final int MOST_HOURS_TO_CALL = 999;

    private static final int SALES_BY_PRICE = 0;
    private static final int SALES_BY_LEAST_CUT = 1;
    private static final int SALES_BY_GREATEST_CUT = 2;
    private static final int ORDERS_OF_SALES = 3;

    /** What a search answers if there is nothing to be found; never a right answer of one. */
    private static final int NONE = -1;

    private static final long FIRST_HASH = 4397L;
    private static final int EXPONENT_BIAS = 1023;
    private static final int FRACTION_BITS = 52;

    /** All that a snapshot holds. */
    private static final class Ledger {
        final int[] prices = new int[KINDS];
        final int[] cuts = new int[KINDS];
        final int[] soldPieces = new int[KINDS];
        /** Client by client, so that one copy takes them all. */
        final int[] pieces = new int[CLIENTS * KINDS];
        final int[] coins = new int[CLIENTS];
        final int[] debts = new int[CLIENTS];
        /** The hours that a call leaves yet; 0 tells that the client is not called. */
        final int[] callHours = new int[CLIENTS];
        final boolean[] barred = new boolean[CLIENTS];
        int interestRate = 10;
        int graceHours = 6;
        int slipPercent = 5;
        int salesOrder = SALES_BY_PRICE;
        int passedHours;
        int lentCoins;
        int interestCoins;
        int repaidCoins;
        int lostCoins;
        int callCount;
        int soldOutCount;

        Ledger() {
            Arrays.fill(prices, 100);
            Arrays.fill(cuts, 20);
        }

        void copyFrom(Ledger other) {
            System.arraycopy(other.prices, 0, prices, 0, KINDS);
            System.arraycopy(other.cuts, 0, cuts, 0, KINDS);
            System.arraycopy(other.soldPieces, 0, soldPieces, 0, KINDS);
            System.arraycopy(other.pieces, 0, pieces, 0, CLIENTS * KINDS);
            System.arraycopy(other.coins, 0, coins, 0, CLIENTS);
            System.arraycopy(other.debts, 0, debts, 0, CLIENTS);
            System.arraycopy(other.callHours, 0, callHours, 0, CLIENTS);
            System.arraycopy(other.barred, 0, barred, 0, CLIENTS);
            interestRate = other.interestRate;
            graceHours = other.graceHours;
            slipPercent = other.slipPercent;
            salesOrder = other.salesOrder;
            passedHours = other.passedHours;
            lentCoins = other.lentCoins;
            interestCoins = other.interestCoins;
            repaidCoins = other.repaidCoins;
            lostCoins = other.lostCoins;
            callCount = other.callCount;
            soldOutCount = other.soldOutCount;
        }

        // What clients have, as it is or as it would be.

        int worth(int client) {
            int sum = coins[client];
            for (int kind = 0; kind < KINDS; kind++) {
                sum += pieces[at(client, kind)] * prices[kind];
            }
            return sum;
        }

        int cover(int client) {
            return coverAfterFall(client, 0, LEAST_PRICE);
        }

        /** The pieces are divided as a whole, so that no part of a coin is dropped kind by kind. */
        int coverAfterFall(int client, int percent, int leastPrice) {
            int hundredths = 0;
            for (int kind = 0; kind < KINDS; kind++) {
                hundredths += pieces[at(client, kind)] * fallen(prices[kind], percent, leastPrice) * (100 - cuts[kind]);
            }
            return coins[client] + hundredths / 100;
        }

        boolean staysCovered(int client, int percent, int leastPrice) {
            return debts[client] <= coverAfterFall(client, percent, leastPrice);
        }

        int openRoom(int client) {
            int room = cover(client) - debts[client];
            return barred[client] || room < 0 ? 0 : room;
        }

        int interestOn(int debt) {
            return (int) (((long) debt * interestRate + 9999) / 10000);
        }

        int piecesOfAll(int kind) {
            int sum = 0;
            for (int client = 0; client < CLIENTS; client++) {
                sum += pieces[at(client, kind)];
            }
            return sum;
        }

        int debtsOfAll() {
            int sum = 0;
            for (int client = 0; client < CLIENTS; client++) {
                sum += debts[client];
            }
            return sum;
        }

        int coverOfAll() {
            int sum = 0;
            for (int client = 0; client < CLIENTS; client++) {
                sum += cover(client);
            }
            return sum;
        }

        int countCalled() {
            int count = 0;
            for (int client = 0; client < CLIENTS; client++) {
                count += callHours[client] > 0 ? 1 : 0;
            }
            return count;
        }

        int countUncoveredAfterFall(int percent) {
            int count = 0;
            for (int client = 0; client < CLIENTS; client++) {
                count += staysCovered(client, percent, LEAST_PRICE) ? 0 : 1;
            }
            return count;
        }

        /** Prices may be 0 here: the document keeps a price of 1 for real falls alone. */
        int callingFallByTrying(int client) {
            if (callHours[client] > 0) {
                return 0;
            }
            for (int percent = 1; percent <= WHOLE_FALL; percent++) {
                if (!staysCovered(client, percent, 0)) {
                    return percent;
                }
            }
            return NONE;
        }

        int callingFallByHalving(int client) {
            if (callHours[client] > 0) {
                return 0;
            }
            if (staysCovered(client, WHOLE_FALL, 0)) {
                return NONE;
            }
            int harmless = 0;
            int calling = WHOLE_FALL;
            for (int step = 0; step < WHOLE_FALL && calling - harmless > 1; step++) {
                int middle = (harmless + calling) / 2;
                if (staysCovered(client, middle, 0)) {
                    harmless = middle;
                } else {
                    calling = middle;
                }
            }
            return calling;
        }

        int hoursUntilCall(int client) {
            if (callHours[client] > 0) {
                return 0;
            }
            int covered = cover(client);
            int debt = debts[client];
            for (int hour = 1; hour <= MOST_HOURS_TO_CALL; hour++) {
                debt += interestOn(debt);
                if (debt > covered) {
                    return hour;
                }
            }
            return NONE;
        }

        // Risk.

        boolean isRiskier(int one, int other) {
            int oneDebt = debts[one];
            int otherDebt = debts[other];
            if (oneDebt == 0 || otherDebt == 0) {
                return oneDebt != otherDebt ? oneDebt > 0 : one < other;
            }
            // Each share is multiplied by both debts, so that nothing is rounded.
            long oneShare = (long) cover(one) * otherDebt;
            long otherShare = (long) cover(other) * oneDebt;
            return oneShare != otherShare ? oneShare < otherShare : one < other;
        }

        int riskPlace(int client) {
            int place = 0;
            for (int other = 0; other < CLIENTS; other++) {
                if (other != client && isRiskier(other, client)) {
                    place++;
                }
            }
            return place;
        }

        void sortByRisk(int[] row) {
            for (int client = 0; client < CLIENTS; client++) {
                int place = client;
                for (; place > 0 && isRiskier(client, row[place - 1]); place--) {
                    row[place] = row[place - 1];
                }
                row[place] = client;
            }
        }

        int takeRiskiest(int place) {
            int taken = 0;
            int riskiest = 0;
            for (int turn = 0; turn <= place; turn++) {
                riskiest = riskiestBut(taken);
                taken |= 1 << riskiest;
            }
            return riskiest;
        }

        /** The bits of taken tell who is left out. */
        int riskiestBut(int taken) {
            int riskiest = NONE;
            for (int client = 0; client < CLIENTS; client++) {
                boolean left = (taken >> client & 1) == 0;
                if (left && (riskiest == NONE || isRiskier(client, riskiest))) {
                    riskiest = client;
                }
            }
            return riskiest == NONE ? 0 : riskiest;
        }

        // Changes; those that may be refused answer false then, and change nothing.

        int lookAtClients() {
            int freshCalls = 0;
            for (int client = 0; client < CLIENTS; client++) {
                if (debts[client] <= cover(client)) {
                    callHours[client] = 0;
                } else if (callHours[client] == 0) {
                    callHours[client] = graceHours;
                    freshCalls++;
                }
            }
            callCount += freshCalls;
            return freshCalls;
        }

        int putPrice(int kind, int price) {
            prices[kind] = price;
            return lookAtClients();
        }

        int putCut(int kind, int cut) {
            cuts[kind] = cut;
            return lookAtClients();
        }

        int dropPrices(int percent) {
            for (int kind = 0; kind < KINDS; kind++) {
                prices[kind] = fallen(prices[kind], percent, LEAST_PRICE);
            }
            return lookAtClients();
        }

        boolean addPieces(int client, int kind, int many) {
            int place = at(client, kind);
            if (pieces[place] + many > MOST_PIECES) {
                return false;
            }
            pieces[place] += many;
            lookAtClients();
            return true;
        }

        boolean takePieces(int client, int kind, int many) {
            int place = at(client, kind);
            if (pieces[place] < many) {
                return false;
            }
            pieces[place] -= many;
            if (debts[client] > cover(client)) {
                pieces[place] += many;
                return false;
            }
            lookAtClients();
            return true;
        }

        boolean addCoins(int client, int many) {
            if (coins[client] + many > MOST_COINS) {
                return false;
            }
            coins[client] += many;
            lookAtClients();
            return true;
        }

        boolean takeCoins(int client, int many) {
            if (coins[client] < many || debts[client] > cover(client) - many) {
                return false;
            }
            coins[client] -= many;
            lookAtClients();
            return true;
        }

        boolean addDebt(int client, int many) {
            if (barred[client] || debts[client] + many > cover(client)) {
                return false;
            }
            debts[client] += many;
            lentCoins += many;
            lookAtClients();
            return true;
        }

        /** Answers the coins that are taken, NONE if there is no debt. */
        int takeDebt(int client, int many) {
            if (debts[client] == 0) {
                return NONE;
            }
            int taken = many < debts[client] ? many : debts[client];
            debts[client] -= taken;
            repaidCoins += taken;
            lookAtClients();
            return taken;
        }

        boolean liftBar(int client) {
            if (!barred[client]) {
                return false;
            }
            barred[client] = false;
            lookAtClients();
            return true;
        }

        int passHours(int many, Sale sale) {
            int soldOutBefore = soldOutCount;
            for (int hour = 0; hour < many; hour++) {
                int calledAhead = calledAsBits();
                passedHours++;
                addInterest();
                lookAtClients();
                countDown(calledAhead, sale);
            }
            lookAtClients();
            return soldOutCount - soldOutBefore;
        }

        int calledAsBits() {
            int bits = 0;
            for (int client = 0; client < CLIENTS; client++) {
                bits |= callHours[client] > 0 ? 1 << client : 0;
            }
            return bits;
        }

        void addInterest() {
            for (int client = 0; client < CLIENTS; client++) {
                int added = interestOn(debts[client]);
                debts[client] += added;
                interestCoins += added;
            }
        }

        /** Only calls that stood ahead of the hour have lost it. */
        void countDown(int calledAhead, Sale sale) {
            for (int client = 0; client < CLIENTS; client++) {
                boolean wasCalled = (calledAhead >> client & 1) != 0;
                if (wasCalled && callHours[client] > 0) {
                    callHours[client]--;
                    if (callHours[client] == 0) {
                        sale.reckon(this, client);
                        enterSale(sale, client);
                    }
                }
            }
        }

        void enterSale(Sale sale, int client) {
            for (int kind = 0; kind < KINDS; kind++) {
                int place = at(client, kind);
                soldPieces[kind] += pieces[place] - sale.piecesLeft[kind];
                pieces[place] = sale.piecesLeft[kind];
            }
            coins[client] = sale.coinsLeft;
            debts[client] = sale.debtLeft;
            repaidCoins += sale.coinsPaid;
            lostCoins += sale.coinsLost;
            if (sale.coinsLost > 0) {
                barred[client] = true;
            }
            callHours[client] = 0;
            soldOutCount++;
        }
    }

    /** The row on which selling out is reckoned, for real sales and for those that only would be. */
    private static final class Sale {
        final int[] piecesLeft = new int[KINDS];
        /** The kind with the greatest key is sold first. */
        final int[] keys = new int[KINDS];
        int coinsLeft;
        int debtLeft;
        /** What the pieces that are left cover, in hundredths. */
        int coverLeft;
        int piecesSold;
        int coinsPaid;
        int coinsLost;

        void reckon(Ledger ledger, int client) {
            coinsLeft = ledger.coins[client];
            debtLeft = ledger.debts[client];
            piecesSold = 0;
            coinsPaid = 0;
            coinsLost = 0;
            int pieces = layOutPieces(ledger, client);
            payFromCoins();
            for (int turn = 0; turn < pieces && !isCovered(); turn++) {
                sellOne(ledger);
            }
            if (!isCovered()) {
                coinsLost = debtLeft;
                debtLeft = 0;
            }
        }

        /** Answers how many pieces there are. */
        int layOutPieces(Ledger ledger, int client) {
            int pieces = 0;
            coverLeft = 0;
            for (int kind = 0; kind < KINDS; kind++) {
                piecesLeft[kind] = ledger.pieces[at(client, kind)];
                keys[kind] = keyOf(ledger, kind);
                pieces += piecesLeft[kind];
                coverLeft += piecesLeft[kind] * coverOfOne(ledger, kind);
            }
            return pieces;
        }

        int keyOf(Ledger ledger, int kind) {
            switch (ledger.salesOrder) {
                case SALES_BY_LEAST_CUT:
                    return -ledger.cuts[kind];
                case SALES_BY_GREATEST_CUT:
                    return ledger.cuts[kind];
                default:
                    return ledger.prices[kind];
            }
        }

        int coverOfOne(Ledger ledger, int kind) {
            return ledger.prices[kind] * (100 - ledger.cuts[kind]);
        }

        boolean isCovered() {
            return debtLeft <= coinsLeft + coverLeft / 100;
        }

        void payFromCoins() {
            int coins = coinsLeft;
            coinsLeft = 0;
            payWith(coins);
        }

        void sellOne(Ledger ledger) {
            int kind = firstKind();
            if (kind != NONE) {
                piecesLeft[kind]--;
                coverLeft -= coverOfOne(ledger, kind);
                piecesSold++;
                payWith(ledger.prices[kind] * (100 - ledger.slipPercent) / 100);
            }
        }

        int firstKind() {
            int first = NONE;
            for (int kind = 0; kind < KINDS; kind++) {
                if (piecesLeft[kind] > 0 && (first == NONE || keys[kind] > keys[first])) {
                    first = kind;
                }
            }
            return first;
        }

        void payWith(int coins) {
            int paid = coins < debtLeft ? coins : debtLeft;
            debtLeft -= paid;
            coinsPaid += paid;
            coinsLeft += coins - paid;
        }
    }

    /** The buffer, and a reader that takes its characters one by one. */
    private static final class OrderText {
        final int[] codes = new int[MOST_CHARACTERS];
        int length;
        /** The letter of the part that is read; NONE ahead of it. */
        int letter;
        int step;
        int client;
        int kind;
        int number;
        int digits;

        void startPart() {
            letter = NONE;
            step = 0;
            client = 0;
            kind = 0;
            number = 0;
            digits = 0;
        }

        int findError() {
            startPart();
            for (int place = 0; place < length; place++) {
                if (!take(codes[place])) {
                    return place;
                }
            }
            return length;
        }

        boolean tellsOrders() {
            return findError() == length && isWholePart();
        }

        boolean isWholePart() {
            return digits > 0;
        }

        boolean endsPart(int place) {
            return place + 1 >= length || codes[place + 1] == ';';
        }

        /** Answers false if no orders as a text go on with the character. */
        boolean take(int code) {
            if (letter == NONE) {
                letter = code;
                return !shapeOf(code).isEmpty();
            }
            if (code == ';' && isWholePart()) {
                startPart();
                return true;
            }
            return takeInside(code);
        }

        boolean takeInside(int code) {
            String shape = shapeOf(letter);
            if (step >= shape.length()) {
                return false;
            }
            char due = shape.charAt(step);
            if (due == 'n') {
                return takeDigit(code - '0');
            }
            step++;
            if (due == 'w') {
                client = code - '0';
                return client >= 0 && client < CLIENTS;
            }
            if (due == 'k') {
                kind = code - '0';
                return kind >= 0 && kind < KINDS;
            }
            return code == due;
        }

        boolean takeDigit(int digit) {
            if (digit < 0 || digit > 9) {
                return false;
            }
            boolean leadingZero = digits > 0 && number == 0;
            number = number * 10 + digit;
            digits++;
            return !leadingZero && number >= leastNumber() && number <= mostNumber();
        }

        /** What follows the letter: w is a client, k a kind, n the number, another sign itself. */
        static String shapeOf(int letter) {
            switch (letter) {
                case 'p':
                case 'c':
                    return "k=n";
                case '+':
                case '-':
                    return "w:k*n";
                case 'l':
                case 'b':
                    return "w=n";
                case 'h':
                    return "n";
                default:
                    return "";
            }
        }

        int leastNumber() {
            return letter == 'c' ? 0 : 1;
        }

        int mostNumber() {
            switch (letter) {
                case 'p':
                    return MOST_PRICE;
                case 'c':
                    return MOST_CUT;
                case '+':
                case '-':
                    return MOST_PIECES_AT_ONCE;
                case 'h':
                    return MOST_HOURS_AT_ONCE;
                default:
                    return MOST_COINS_AT_ONCE;
            }
        }
    }

    private final OrderText text = new OrderText();
    private final Sale sale = new Sale();
    private final int[] riskRow = new int[CLIENTS];
    private final Ledger[] slots = new Ledger[SLOTS];
    private final boolean[] slotFilled = new boolean[SLOTS];
    private final Ledger[] saved = new Ledger[MOST_SAVED];
    private int savedCount;
    private Ledger now = new Ledger();
    /** Holds the state from before a change, until it is known whether the change stands. */
    private Ledger before = new Ledger();

    public PledgeHouse() {
        for (int slot = 0; slot < SLOTS; slot++) {
            slots[slot] = new Ledger();
        }
        for (int place = 0; place < MOST_SAVED; place++) {
            saved[place] = new Ledger();
        }
    }

    // ---- prices, pledges

    public int setPrice(int kind, int price) throws IndexOutOfBoundsException, IllegalArgumentException {
        needKind(kind);
        needRange(price, LEAST_PRICE, MOST_PRICE);
        save();
        return now.putPrice(kind, price);
    }

    public int setCut(int kind, int cut) throws IndexOutOfBoundsException, IllegalArgumentException {
        needKind(kind);
        needRange(cut, 0, MOST_CUT);
        save();
        return now.putCut(kind, cut);
    }

    public int fall(int percent) throws IllegalArgumentException {
        needRange(percent, 1, MOST_FALL);
        save();
        return now.dropPrices(percent);
    }

    public int pledge(int client, int kind, int many)
            throws IndexOutOfBoundsException, IllegalArgumentException, IllegalStateException {
        needClient(client);
        needKind(kind);
        needRange(many, 1, MOST_PIECES_AT_ONCE);
        before.copyFrom(now);
        need(now.addPieces(client, kind, many));
        saveBefore();
        return now.pieces[at(client, kind)];
    }

    public int release(int client, int kind, int many)
            throws IndexOutOfBoundsException, IllegalArgumentException, IllegalStateException {
        needClient(client);
        needKind(kind);
        needRange(many, 1, MOST_PIECES_AT_ONCE);
        before.copyFrom(now);
        need(now.takePieces(client, kind, many));
        saveBefore();
        return now.pieces[at(client, kind)];
    }

    // ---- coins

    public int deposit(int client, int coins)
            throws IndexOutOfBoundsException, IllegalArgumentException, IllegalStateException {
        needClient(client);
        needRange(coins, 1, MOST_COINS_AT_ONCE);
        before.copyFrom(now);
        need(now.addCoins(client, coins));
        saveBefore();
        return now.coins[client];
    }

    public int withdraw(int client, int coins)
            throws IndexOutOfBoundsException, IllegalArgumentException, IllegalStateException {
        needClient(client);
        needRange(coins, 1, MOST_COINS_AT_ONCE);
        before.copyFrom(now);
        need(now.takeCoins(client, coins));
        saveBefore();
        return now.coins[client];
    }

    public int lend(int client, int coins)
            throws IndexOutOfBoundsException, IllegalArgumentException, IllegalStateException {
        needClient(client);
        needRange(coins, 1, MOST_COINS_AT_ONCE);
        before.copyFrom(now);
        need(now.addDebt(client, coins));
        saveBefore();
        return now.debts[client];
    }

    public int payBack(int client, int coins)
            throws IndexOutOfBoundsException, IllegalArgumentException, IllegalStateException {
        needClient(client);
        needRange(coins, 1, MOST_COINS_AT_ONCE);
        before.copyFrom(now);
        int taken = now.takeDebt(client, coins);
        need(taken != NONE);
        saveBefore();
        return taken;
    }

    public void readmit(int client) throws IndexOutOfBoundsException, IllegalStateException {
        needClient(client);
        before.copyFrom(now);
        need(now.liftBar(client));
        saveBefore();
    }

    // ---- hours, rules

    public int pass(int hours) throws IllegalArgumentException {
        needRange(hours, 1, MOST_HOURS_AT_ONCE);
        save();
        return now.passHours(hours, sale);
    }

    public int changeRate(int rate) throws IllegalArgumentException {
        needRange(rate, 0, MOST_RATE);
        save();
        int old = now.interestRate;
        now.interestRate = rate;
        return old;
    }

    public int changeGrace(int hours) throws IllegalArgumentException {
        needRange(hours, 1, MOST_GRACE);
        save();
        int old = now.graceHours;
        now.graceHours = hours;
        return old;
    }

    public int changeSlip(int percent) throws IllegalArgumentException {
        needRange(percent, 0, MOST_SLIP);
        save();
        int old = now.slipPercent;
        now.slipPercent = percent;
        return old;
    }

    public int turnOrder() {
        save();
        now.salesOrder = (now.salesOrder + 1) % ORDERS_OF_SALES;
        return now.salesOrder;
    }

    // ---- texts

    public int append(int code) throws IllegalArgumentException, IllegalStateException {
        needRange(code, 33, 126);
        if (text.length >= MOST_CHARACTERS) {
            throw new IllegalStateException();
        }
        text.codes[text.length] = code;
        text.length++;
        return text.length;
    }

    public int clearBuffer() {
        int old = text.length;
        text.length = 0;
        return old;
    }

    public int firstError() {
        return text.findError();
    }

    public int follow() throws IllegalArgumentException, IllegalStateException {
        if (!text.tellsOrders()) {
            throw new IllegalArgumentException();
        }
        before.copyFrom(now);
        boolean fits = true;
        text.startPart();
        for (int place = 0; fits && place < text.length; place++) {
            fits = text.take(text.codes[place]) && (!text.endsPart(place) || carryOutPart());
        }
        if (!fits) {
            now.copyFrom(before);
            throw new IllegalStateException();
        }
        saveBefore();
        text.length = 0;
        return now.countCalled();
    }

    // ---- snapshots, undo

    public void keep(int slot) throws IllegalArgumentException {
        needRange(slot, 0, SLOTS - 1);
        slots[slot].copyFrom(now);
        slotFilled[slot] = true;
    }

    public void goBack(int slot) throws IllegalArgumentException, IllegalStateException {
        needRange(slot, 0, SLOTS - 1);
        need(slotFilled[slot]);
        save();
        now.copyFrom(slots[slot]);
    }

    public void undo() throws IllegalStateException {
        need(savedCount > 0);
        savedCount--;
        now.copyFrom(saved[savedCount]);
    }

    public int savedStates() {
        return savedCount;
    }

    // ---- kinds as they are; nothing is changed

    public int priceOf(int kind) throws IndexOutOfBoundsException {
        needKind(kind);
        return now.prices[kind];
    }

    public int cutOf(int kind) throws IndexOutOfBoundsException {
        needKind(kind);
        return now.cuts[kind];
    }

    public int pledgedOf(int kind) throws IndexOutOfBoundsException {
        needKind(kind);
        return now.piecesOfAll(kind);
    }

    public int soldOf(int kind) throws IndexOutOfBoundsException {
        needKind(kind);
        return now.soldPieces[kind];
    }

    // ---- clients as they are; nothing is changed

    public int piecesOf(int client, int kind) throws IndexOutOfBoundsException {
        needClient(client);
        needKind(kind);
        return now.pieces[at(client, kind)];
    }

    public int coinsOf(int client) throws IndexOutOfBoundsException {
        needClient(client);
        return now.coins[client];
    }

    public int debtOf(int client) throws IndexOutOfBoundsException {
        needClient(client);
        return now.debts[client];
    }

    public int worthOf(int client) throws IndexOutOfBoundsException {
        needClient(client);
        return now.worth(client);
    }

    public int coverOf(int client) throws IndexOutOfBoundsException {
        needClient(client);
        return now.cover(client);
    }

    public int roomOf(int client) throws IndexOutOfBoundsException {
        needClient(client);
        return now.openRoom(client);
    }

    public boolean isCalled(int client) throws IndexOutOfBoundsException {
        needClient(client);
        return now.callHours[client] > 0;
    }

    public int hoursLeft(int client) throws IndexOutOfBoundsException, IllegalStateException {
        needClient(client);
        need(now.callHours[client] > 0);
        return now.callHours[client];
    }

    public boolean isBarred(int client) throws IndexOutOfBoundsException {
        needClient(client);
        return now.barred[client];
    }

    public int rankOf(int client) throws IndexOutOfBoundsException {
        needClient(client);
        return now.riskPlace(client);
    }

    public int riskyBySorting(int place) throws IndexOutOfBoundsException {
        needPlace(place);
        now.sortByRisk(riskRow);
        return riskRow[place];
    }

    public int riskyByTaking(int place) throws IndexOutOfBoundsException {
        needPlace(place);
        return now.takeRiskiest(place);
    }

    public int calledNow() {
        return now.countCalled();
    }

    // ---- rules as they are; nothing is changed

    public int rate() {
        return now.interestRate;
    }

    public int grace() {
        return now.graceHours;
    }

    public int slip() {
        return now.slipPercent;
    }

    public int order() {
        return now.salesOrder;
    }

    // ---- what would be; nothing is changed

    public int fallToCallByTrying(int client) throws IndexOutOfBoundsException, IllegalStateException {
        needClient(client);
        int percent = now.callingFallByTrying(client);
        need(percent != NONE);
        return percent;
    }

    public int fallToCallByHalving(int client) throws IndexOutOfBoundsException, IllegalStateException {
        needClient(client);
        int percent = now.callingFallByHalving(client);
        need(percent != NONE);
        return percent;
    }

    public int hoursToCall(int client) throws IndexOutOfBoundsException, IllegalStateException {
        needClient(client);
        int hours = now.hoursUntilCall(client);
        need(hours != NONE);
        return hours;
    }

    public int wouldSell(int client) throws IndexOutOfBoundsException {
        needClient(client);
        sale.reckon(now, client);
        return sale.piecesSold;
    }

    public int wouldLose(int client) throws IndexOutOfBoundsException {
        needClient(client);
        sale.reckon(now, client);
        return sale.coinsLost;
    }

    public int calledIfFallen(int percent) throws IllegalArgumentException {
        needRange(percent, 1, MOST_FALL);
        return now.countUncoveredAfterFall(percent);
    }

    // ---- accounts; nothing is changed

    public int hours() {
        return now.passedHours;
    }

    public int debtsByClients() {
        return now.debtsOfAll();
    }

    public int debtsByAccount() {
        return now.lentCoins + now.interestCoins - now.repaidCoins - now.lostCoins;
    }

    public int lent() {
        return now.lentCoins;
    }

    public int interest() {
        return now.interestCoins;
    }

    public int repaid() {
        return now.repaidCoins;
    }

    public int lost() {
        return now.lostCoins;
    }

    public int calls() {
        return now.callCount;
    }

    public int soldOut() {
        return now.soldOutCount;
    }

    public double usedShare() {
        int cover = now.coverOfAll();
        return cover == 0 ? 0.0 : (double) now.debtsOfAll() / cover;
    }

    public long digest() {
        long hash = FIRST_HASH;
        for (int kind = 0; kind < KINDS; kind++) {
            hash = hashKind(hash, kind);
        }
        for (int client = 0; client < CLIENTS; client++) {
            hash = hashPledges(hash, client);
            hash = hashOutlook(hash, client);
        }
        now.sortByRisk(riskRow);
        for (int place = 0; place < CLIENTS; place++) {
            hash = mixed(hash, riskRow[place]);
            hash = mixed(hash, now.takeRiskiest(place));
        }
        hash = hashRules(hash);
        hash = hashAccounts(hash);
        return hashSlotsAndText(hash);
    }

    private long hashKind(long start, int kind) {
        long hash = mixed(start, now.prices[kind]);
        hash = mixed(hash, now.cuts[kind]);
        hash = mixed(hash, now.piecesOfAll(kind));
        return mixed(hash, now.soldPieces[kind]);
    }

    private long hashPledges(long start, int client) {
        long hash = start;
        for (int kind = 0; kind < KINDS; kind++) {
            hash = mixed(hash, now.pieces[at(client, kind)]);
        }
        hash = mixed(hash, now.coins[client]);
        hash = mixed(hash, now.debts[client]);
        hash = mixed(hash, now.worth(client));
        hash = mixed(hash, now.cover(client));
        return mixed(hash, now.openRoom(client));
    }

    private long hashOutlook(long start, int client) {
        long hash = mixed(start, now.callHours[client] > 0 ? 1 : 0);
        hash = mixed(hash, now.callHours[client]);
        hash = mixed(hash, now.barred[client] ? 1 : 0);
        hash = mixed(hash, now.riskPlace(client));
        // NONE stands where the public methods throw, so that with 1 more it is the 0 that is asked.
        hash = mixed(hash, now.callingFallByTrying(client) + 1);
        hash = mixed(hash, now.callingFallByHalving(client) + 1);
        sale.reckon(now, client);
        hash = mixed(hash, sale.piecesSold);
        return mixed(hash, sale.coinsLost);
    }

    private long hashRules(long start) {
        long hash = mixed(start, now.countCalled());
        hash = mixed(hash, now.interestRate);
        hash = mixed(hash, now.graceHours);
        hash = mixed(hash, now.slipPercent);
        hash = mixed(hash, now.salesOrder);
        hash = mixed(hash, now.countUncoveredAfterFall(10));
        return mixed(hash, now.countUncoveredAfterFall(50));
    }

    private long hashAccounts(long start) {
        long hash = mixed(start, now.passedHours);
        hash = mixed(hash, debtsByClients());
        hash = mixed(hash, debtsByAccount());
        hash = mixed(hash, now.lentCoins);
        hash = mixed(hash, now.interestCoins);
        hash = mixed(hash, now.repaidCoins);
        hash = mixed(hash, now.lostCoins);
        hash = mixed(hash, now.callCount);
        hash = mixed(hash, now.soldOutCount);
        hash = mixed(hash, savedCount);
        return mixed(hash, bitsOf(usedShare()));
    }

    private long hashSlotsAndText(long start) {
        long hash = start;
        for (int slot = 0; slot < SLOTS; slot++) {
            hash = mixed(hash, slotFilled[slot] ? 1 : 0);
        }
        hash = mixed(hash, text.length);
        for (int place = 0; place < text.length; place++) {
            hash = mixed(hash, text.codes[place]);
        }
        return hash;
    }

    private static long mixed(long hash, long value) {
        return 31 * hash + value;
    }

    /**
     * The library of the rules has no way to tell the bits of a double, so they are reckoned; a share is 0.0, or
     * positive and far from the ends of the range.
     */
    private static long bitsOf(double share) {
        if (share <= 0.0) {
            return 0L;
        }
        double scaled = share;
        int exponent = 0;
        for (; exponent < EXPONENT_BIAS && scaled >= 2.0; exponent++) {
            scaled = scaled / 2.0;
        }
        for (; exponent > 1 - EXPONENT_BIAS && scaled < 1.0; exponent--) {
            scaled = scaled * 2.0;
        }
        long fraction = (long) ((scaled - 1.0) * (double) (1L << FRACTION_BITS));
        return ((long) (exponent + EXPONENT_BIAS) << FRACTION_BITS) + fraction;
    }

    private boolean carryOutPart() {
        switch (text.letter) {
            case 'p':
                now.putPrice(text.kind, text.number);
                return true;
            case 'c':
                now.putCut(text.kind, text.number);
                return true;
            case '+':
                return now.addPieces(text.client, text.kind, text.number);
            case '-':
                return now.takePieces(text.client, text.kind, text.number);
            case 'l':
                return now.addDebt(text.client, text.number);
            case 'b':
                return now.takeDebt(text.client, text.number) != NONE;
            default:
                now.passHours(text.number, sale);
                return true;
        }
    }

    private void save() {
        before.copyFrom(now);
        saveBefore();
    }

    /** The rows change places, so that none is made anew: the row that falls out is the next to hold a state. */
    private void saveBefore() {
        Ledger free;
        if (savedCount < MOST_SAVED) {
            free = saved[savedCount];
            savedCount++;
        } else {
            free = saved[0];
            for (int place = 1; place < MOST_SAVED; place++) {
                saved[place - 1] = saved[place];
            }
        }
        saved[savedCount - 1] = before;
        before = free;
    }

    private static int at(int client, int kind) {
        return client * KINDS + kind;
    }

    private static int fallen(int price, int percent, int leastPrice) {
        int left = price * (100 - percent) / 100;
        return left < leastPrice ? leastPrice : left;
    }

    private static void needKind(int kind) {
        if (kind < 0 || kind >= KINDS) {
            throw new IndexOutOfBoundsException();
        }
    }

    private static void needClient(int client) {
        if (client < 0 || client >= CLIENTS) {
            throw new IndexOutOfBoundsException();
        }
    }

    private static void needPlace(int place) {
        if (place < 0 || place >= CLIENTS) {
            throw new IndexOutOfBoundsException();
        }
    }

    private static void needRange(int value, int least, int most) {
        if (value < least || value > most) {
            throw new IllegalArgumentException();
        }
    }

    private static void need(boolean stateFits) {
        if (!stateFits) {
            throw new IllegalStateException();
        }
    }
}
