import java.math.BigInteger;
import java.util.ArrayDeque;
import java.util.ArrayList;
import java.util.Arrays;
import java.util.Comparator;
import java.util.Deque;
import java.util.List;
import java.util.regex.Matcher;
import java.util.regex.Pattern;

/** The document written a second time, as plainly as the Java library allows, for ModelTest to compare with. */
public final class PlainHouse {
    private static final Pattern ORDERS = orders();

    private static final class Client {
        final long[] umbrellas = new long[6];
        long pledgedCoins;
        long owes;
        /** Null if the client is not called. */
        Long leftHours;
        boolean isOut;

        Client copy() {
            Client copy = new Client();
            System.arraycopy(umbrellas, 0, copy.umbrellas, 0, 6);
            copy.pledgedCoins = pledgedCoins;
            copy.owes = owes;
            copy.leftHours = leftHours;
            copy.isOut = isOut;
            return copy;
        }
    }

    private static final class State {
        final List<Client> clients = new ArrayList<>();
        long[] price = {100, 100, 100, 100, 100, 100};
        long[] cut = {20, 20, 20, 20, 20, 20};
        long[] gone = new long[6];
        /** Rate, grace, slip, order. */
        long[] rules = {10, 6, 5, 0};
        /** Hours, lent, interest, repaid, lost, calls, sold out. */
        long[] sums = new long[7];

        static State fresh() {
            State state = new State();
            for (int client = 0; client < 8; client++) {
                state.clients.add(new Client());
            }
            return state;
        }

        State copy() {
            State copy = new State();
            clients.forEach(client -> copy.clients.add(client.copy()));
            copy.price = price.clone();
            copy.cut = cut.clone();
            copy.gone = gone.clone();
            copy.rules = rules.clone();
            copy.sums = sums.clone();
            return copy;
        }

        long coverAt(Client client, long[] prices) {
            long cover = 0;
            for (int kind = 0; kind < 6; kind++) {
                cover += client.umbrellas[kind] * prices[kind] * (100 - cut[kind]);
            }
            return client.pledgedCoins + cover / 100;
        }

        boolean covered(Client client) {
            return client.owes <= coverAt(client, price);
        }

        long[] pricesFallen(int percent, long least) {
            return Arrays.stream(price).map(p -> Math.max(least, p * (100 - percent) / 100)).toArray();
        }

        int look() {
            int count = 0;
            for (Client client : clients) {
                if (covered(client)) {
                    client.leftHours = null;
                } else if (client.leftHours == null) {
                    client.leftHours = rules[1];
                    sums[5]++;
                    count++;
                }
            }
            return count;
        }

        long addedTo(long debt) {
            return -Math.floorDiv(-debt * rules[0], 10000L);
        }

        void hour() {
            List<Client> before = clients.stream().filter(client -> client.leftHours != null).toList();
            sums[0]++;
            for (Client client : clients) {
                long added = addedTo(client.owes);
                client.owes += added;
                sums[2] += added;
            }
            look();
            for (Client client : before) {
                if (client.leftHours != null) {
                    client.leftHours = client.leftHours - 1;
                    if (client.leftHours == 0) {
                        sell(client);
                    }
                }
            }
        }

        /** The kinds of the client's umbrellas, one by one as they are to be sold. */
        List<Integer> queue(Client client) {
            List<Integer> queue = new ArrayList<>();
            for (int kind = 0; kind < 6; kind++) {
                for (long piece = 0; piece < client.umbrellas[kind]; piece++) {
                    queue.add(kind);
                }
            }
            Comparator<Integer> first = switch ((int) rules[3]) {
                case 0 -> Comparator.comparing(kind -> -price[kind]);
                case 1 -> Comparator.comparing(kind -> cut[kind]);
                default -> Comparator.comparing(kind -> -cut[kind]);
            };
            queue.sort(first.thenComparing(kind -> kind));
            return queue;
        }

        void sell(Client client) {
            long byCoins = Math.min(client.pledgedCoins, client.owes);
            client.pledgedCoins -= byCoins;
            client.owes -= byCoins;
            sums[3] += byCoins;
            for (int kind : queue(client)) {
                if (covered(client)) {
                    break;
                }
                long brings = price[kind] * (100 - rules[2]) / 100;
                client.umbrellas[kind]--;
                gone[kind]++;
                long bySale = Math.min(brings, client.owes);
                client.owes -= bySale;
                client.pledgedCoins += brings - bySale;
                sums[3] += bySale;
            }
            if (!covered(client)) {
                sums[4] += client.owes;
                client.owes = 0;
                client.isOut = true;
            }
            client.leftHours = null;
            sums[6]++;
        }

        int riskier(int one, int other) {
            Client a = clients.get(one);
            Client b = clients.get(other);
            if (a.owes == 0 || b.owes == 0) {
                return a.owes == b.owes ? Integer.compare(one, other) : a.owes > 0 ? -1 : 1;
            }
            BigInteger left = BigInteger.valueOf(coverAt(a, price)).multiply(BigInteger.valueOf(b.owes));
            BigInteger right = BigInteger.valueOf(coverAt(b, price)).multiply(BigInteger.valueOf(a.owes));
            return left.equals(right) ? Integer.compare(one, other) : left.compareTo(right);
        }

        List<Integer> byRisk() {
            List<Integer> all = new ArrayList<>(List.of(7, 3, 5, 1, 0, 2, 4, 6));
            all.sort(this::riskier);
            return all;
        }

        int fallToCall(Client client) {
            if (client.leftHours != null) {
                return 0;
            }
            for (int percent = 1; percent <= 100; percent++) {
                if (client.owes > coverAt(client, pricesFallen(percent, 0))) {
                    return percent;
                }
            }
            return -1;
        }
    }

    private State state = State.fresh();
    private final Deque<State> saved = new ArrayDeque<>();
    private final State[] slots = new State[2];
    private String buffer = "";

    private static Pattern orders() {
        String price = "(?:[1-9]|[1-9][0-9]|[1-4][0-9][0-9]|500)";
        String cut = "(?:[0-9]|[1-8][0-9]|90)";
        String many = "(?:[1-9]|[1-4][0-9]|50)";
        String coins = "(?:[1-9]|[1-9][0-9]|[1-9][0-9][0-9]|[1-9][0-9][0-9][0-9])";
        String hours = "(?:[1-9]|[1-9][0-9]|100)";
        String part = "(?:p[0-5]=" + price + "|c[0-5]=" + cut + "|[-+][0-7]:[0-5]\\*" + many + "|[lb][0-7]=" + coins
                + "|h" + hours + ")";
        return Pattern.compile(part + "(?:;" + part + ")*");
    }

    private Client client(int number) {
        if (number < 0 || number > 7) {
            throw new IndexOutOfBoundsException();
        }
        return state.clients.get(number);
    }

    private void kind(int number) {
        if (number < 0 || number > 5) {
            throw new IndexOutOfBoundsException();
        }
    }

    private void argument(boolean right) {
        if (!right) {
            throw new IllegalArgumentException();
        }
    }

    private void stands(boolean right) {
        if (!right) {
            throw new IllegalStateException();
        }
    }

    private void save() {
        saved.addLast(state.copy());
        if (saved.size() > 6) {
            saved.removeFirst();
        }
    }

    public int setPrice(int kind, int price) {
        kind(kind);
        argument(price >= 1 && price <= 500);
        save();
        state.price[kind] = price;
        return state.look();
    }

    public int setCut(int kind, int cut) {
        kind(kind);
        argument(cut >= 0 && cut <= 90);
        save();
        state.cut[kind] = cut;
        return state.look();
    }

    public int fall(int percent) {
        argument(percent >= 1 && percent <= 90);
        save();
        state.price = state.pricesFallen(percent, 1);
        return state.look();
    }

    public int pledge(int number, int kind, int many) {
        Client client = client(number);
        kind(kind);
        argument(many >= 1 && many <= 50);
        stands(client.umbrellas[kind] + many <= 99);
        save();
        client.umbrellas[kind] += many;
        state.look();
        return (int) client.umbrellas[kind];
    }

    public int release(int number, int kind, int many) {
        Client client = client(number);
        kind(kind);
        argument(many >= 1 && many <= 50);
        Client then = client.copy();
        then.umbrellas[kind] -= many;
        stands(then.umbrellas[kind] >= 0 && state.covered(then));
        save();
        client.umbrellas[kind] -= many;
        state.look();
        return (int) client.umbrellas[kind];
    }

    public int deposit(int number, int coins) {
        Client client = client(number);
        argument(coins >= 1 && coins <= 9999);
        stands(client.pledgedCoins + coins <= 99999);
        save();
        client.pledgedCoins += coins;
        state.look();
        return (int) client.pledgedCoins;
    }

    public int withdraw(int number, int coins) {
        Client client = client(number);
        argument(coins >= 1 && coins <= 9999);
        Client then = client.copy();
        then.pledgedCoins -= coins;
        stands(then.pledgedCoins >= 0 && state.covered(then));
        save();
        client.pledgedCoins -= coins;
        state.look();
        return (int) client.pledgedCoins;
    }

    public int lend(int number, int coins) {
        Client client = client(number);
        argument(coins >= 1 && coins <= 9999);
        Client then = client.copy();
        then.owes += coins;
        stands(!client.isOut && state.covered(then));
        save();
        client.owes += coins;
        state.sums[1] += coins;
        state.look();
        return (int) client.owes;
    }

    public int payBack(int number, int coins) {
        Client client = client(number);
        argument(coins >= 1 && coins <= 9999);
        stands(client.owes > 0);
        save();
        long taken = Math.min(coins, client.owes);
        client.owes -= taken;
        state.sums[3] += taken;
        state.look();
        return (int) taken;
    }

    public void readmit(int number) {
        Client client = client(number);
        stands(client.isOut);
        save();
        client.isOut = false;
        state.look();
    }

    public int pass(int hours) {
        argument(hours >= 1 && hours <= 100);
        save();
        long before = state.sums[6];
        for (int hour = 0; hour < hours; hour++) {
            state.hour();
        }
        state.look();
        return (int) (state.sums[6] - before);
    }

    private int change(int rule, int value, int least, int most) {
        argument(value >= least && value <= most);
        save();
        long before = state.rules[rule];
        state.rules[rule] = value;
        state.look();
        return (int) before;
    }

    public int changeRate(int rate) {
        return change(0, rate, 0, 100);
    }

    public int changeGrace(int hours) {
        return change(1, hours, 1, 24);
    }

    public int changeSlip(int percent) {
        return change(2, percent, 0, 50);
    }

    public int turnOrder() {
        change(3, (int) (state.rules[3] + 1) % 3, 0, 2);
        return (int) state.rules[3];
    }

    public int append(int code) {
        argument(code >= 33 && code <= 126);
        stands(buffer.length() < 60);
        buffer += (char) code;
        return buffer.length();
    }

    public int clearBuffer() {
        int before = buffer.length();
        buffer = "";
        return before;
    }

    public int firstError() {
        for (int end = 1; end <= buffer.length(); end++) {
            Matcher matcher = ORDERS.matcher(buffer.substring(0, end));
            if (!matcher.matches() && !matcher.hitEnd()) {
                return end - 1;
            }
        }
        return buffer.length();
    }

    public int follow() {
        argument(ORDERS.matcher(buffer).matches());
        State before = state.copy();
        Deque<State> savedBefore = new ArrayDeque<>(saved);
        try {
            for (String part : buffer.split(";")) {
                followPart(part);
            }
        } catch (IllegalStateException refused) {
            state = before;
            throw refused;
        } finally {
            saved.clear();
            saved.addAll(savedBefore);
        }
        State after = state;
        state = before;
        save();
        state = after;
        buffer = "";
        return calledNow();
    }

    private void followPart(String part) {
        String[] numbers = part.substring(1).split("[=:*]");
        int[] n = Arrays.stream(numbers).mapToInt(Integer::parseInt).toArray();
        switch (part.charAt(0)) {
            case 'p' -> setPrice(n[0], n[1]);
            case 'c' -> setCut(n[0], n[1]);
            case '+' -> pledge(n[0], n[1], n[2]);
            case '-' -> release(n[0], n[1], n[2]);
            case 'l' -> lend(n[0], n[1]);
            case 'b' -> payBack(n[0], n[1]);
            default -> pass(n[0]);
        }
    }

    public void keep(int slot) {
        argument(slot == 0 || slot == 1);
        slots[slot] = state.copy();
    }

    public void goBack(int slot) {
        argument(slot == 0 || slot == 1);
        stands(slots[slot] != null);
        save();
        state = slots[slot].copy();
    }

    public void undo() {
        stands(!saved.isEmpty());
        state = saved.removeLast();
    }

    public int savedStates() {
        return saved.size();
    }

    public int priceOf(int kind) {
        kind(kind);
        return (int) state.price[kind];
    }

    public int cutOf(int kind) {
        kind(kind);
        return (int) state.cut[kind];
    }

    public int pledgedOf(int kind) {
        kind(kind);
        return (int) state.clients.stream().mapToLong(client -> client.umbrellas[kind]).sum();
    }

    public int soldOf(int kind) {
        kind(kind);
        return (int) state.gone[kind];
    }

    public int piecesOf(int client, int kind) {
        client(client);
        kind(kind);
        return (int) client(client).umbrellas[kind];
    }

    public int coinsOf(int client) {
        return (int) client(client).pledgedCoins;
    }

    public int debtOf(int client) {
        return (int) client(client).owes;
    }

    public int worthOf(int number) {
        Client client = client(number);
        long worth = client.pledgedCoins;
        for (int kind = 0; kind < 6; kind++) {
            worth += client.umbrellas[kind] * state.price[kind];
        }
        return (int) worth;
    }

    public int coverOf(int client) {
        return (int) state.coverAt(client(client), state.price);
    }

    public int roomOf(int client) {
        return client(client).isOut ? 0 : Math.max(0, coverOf(client) - debtOf(client));
    }

    public boolean isCalled(int client) {
        return client(client).leftHours != null;
    }

    public int hoursLeft(int client) {
        stands(isCalled(client));
        return client(client).leftHours.intValue();
    }

    public boolean isBarred(int client) {
        return client(client).isOut;
    }

    public int rankOf(int client) {
        client(client);
        return state.byRisk().indexOf(client);
    }

    public int riskyBySorting(int place) {
        return state.byRisk().get(place);
    }

    public int riskyByTaking(int place) {
        return riskyBySorting(place);
    }

    public int calledNow() {
        return (int) state.clients.stream().filter(client -> client.leftHours != null).count();
    }

    public int rate() {
        return (int) state.rules[0];
    }

    public int grace() {
        return (int) state.rules[1];
    }

    public int slip() {
        return (int) state.rules[2];
    }

    public int order() {
        return (int) state.rules[3];
    }

    public int fallToCallByTrying(int client) {
        int percent = state.fallToCall(client(client));
        stands(percent >= 0);
        return percent;
    }

    public int fallToCallByHalving(int client) {
        return fallToCallByTrying(client);
    }

    public int hoursToCall(int number) {
        Client client = client(number).copy();
        int hours = 0;
        while (state.covered(client)) {
            hours++;
            stands(hours <= 999);
            client.owes += state.addedTo(client.owes);
        }
        return hours;
    }

    private State soldOutNow(int client) {
        client(client);
        State then = state.copy();
        then.sell(then.clients.get(client));
        return then;
    }

    public int wouldSell(int client) {
        return (int) (Arrays.stream(soldOutNow(client).gone).sum() - Arrays.stream(state.gone).sum());
    }

    public int wouldLose(int client) {
        return (int) (soldOutNow(client).sums[4] - state.sums[4]);
    }

    public int calledIfFallen(int percent) {
        argument(percent >= 1 && percent <= 90);
        State then = state.copy();
        then.price = then.pricesFallen(percent, 1);
        return (int) then.clients.stream().filter(client -> !then.covered(client)).count();
    }

    public int hours() {
        return (int) state.sums[0];
    }

    public int debtsByClients() {
        return (int) state.clients.stream().mapToLong(client -> client.owes).sum();
    }

    public int debtsByAccount() {
        return debtsByClients();
    }

    public int lent() {
        return (int) state.sums[1];
    }

    public int interest() {
        return (int) state.sums[2];
    }

    public int repaid() {
        return (int) state.sums[3];
    }

    public int lost() {
        return (int) state.sums[4];
    }

    public int calls() {
        return (int) state.sums[5];
    }

    public int soldOut() {
        return (int) state.sums[6];
    }

    public double usedShare() {
        long cover = state.clients.stream().mapToLong(client -> state.coverAt(client, state.price)).sum();
        return cover == 0 ? 0.0 : (double) debtsByClients() / cover;
    }

    public long digest() {
        List<Long> values = new ArrayList<>();
        for (int kind = 0; kind < 6; kind++) {
            values.addAll(List.of(state.price[kind], state.cut[kind], (long) pledgedOf(kind), state.gone[kind]));
        }
        for (int number = 0; number < 8; number++) {
            Client client = client(number);
            Arrays.stream(client.umbrellas).forEach(values::add);
            values.addAll(List.of(client.pledgedCoins, client.owes, (long) worthOf(number), (long) coverOf(number)));
            values.addAll(List.of((long) roomOf(number), client.leftHours == null ? 0L : 1L));
            values.addAll(List.of(client.leftHours == null ? 0L : client.leftHours, client.isOut ? 1L : 0L));
            long fall = state.fallToCall(client) + 1;
            values.addAll(List.of((long) rankOf(number), fall, fall, (long) wouldSell(number), (long) wouldLose(number)));
        }
        for (long client : state.byRisk()) {
            values.addAll(List.of(client, client));
        }
        values.add((long) calledNow());
        Arrays.stream(state.rules).forEach(values::add);
        values.addAll(List.of((long) calledIfFallen(10), (long) calledIfFallen(50), state.sums[0]));
        values.addAll(List.of((long) debtsByClients(), (long) debtsByClients()));
        Arrays.stream(state.sums).skip(1).forEach(values::add);
        values.addAll(List.of((long) saved.size(), Double.doubleToLongBits(usedShare())));
        values.addAll(List.of(slots[0] == null ? 0L : 1L, slots[1] == null ? 0L : 1L, (long) buffer.length()));
        buffer.chars().forEach(code -> values.add((long) code));
        return values.stream().reduce(4397L, (hash, value) -> 31 * hash + value);
    }
}
