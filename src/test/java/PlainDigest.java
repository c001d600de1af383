import java.util.ArrayList;
import java.util.List;
import java.util.function.IntUnaryOperator;

/** The digest of a house as its other answers tell it, for a buffer and slots that the test knows of. */
final class PlainDigest {
    private final List<Long> values = new ArrayList<>();

    private PlainDigest() {
    }

    static long of(PledgeHouse h, String buffer, int firstSlot, int secondSlot) {
        PlainDigest digest = new PlainDigest();
        for (int kind = 0; kind < 6; kind++) {
            digest.add(h.priceOf(kind), h.cutOf(kind), h.pledgedOf(kind), h.soldOf(kind));
        }
        for (int client = 0; client < 8; client++) {
            digest.addClient(h, client);
        }
        for (int place = 0; place < 8; place++) {
            digest.add(h.riskyBySorting(place), h.riskyByTaking(place));
        }
        digest.add(h.calledNow(), h.rate(), h.grace(), h.slip(), h.order(), h.calledIfFallen(10), h.calledIfFallen(50));
        digest.add(h.hours(), h.debtsByClients(), h.debtsByAccount(), h.lent(), h.interest(), h.repaid(), h.lost(), h.calls(),
                h.soldOut(), h.savedStates(), Double.doubleToLongBits(h.usedShare()), firstSlot, secondSlot, buffer.length());
        for (char sign : buffer.toCharArray()) {
            digest.add(sign);
        }
        long hash = 4397;
        for (long value : digest.values) {
            hash = 31 * hash + value;
        }
        return hash;
    }

    private void addClient(PledgeHouse h, int client) {
        for (int kind = 0; kind < 6; kind++) {
            add(h.piecesOf(client, kind));
        }
        add(h.coinsOf(client), h.debtOf(client), h.worthOf(client), h.coverOf(client), h.roomOf(client));
        boolean called = h.isCalled(client);
        add(called ? 1 : 0, called ? h.hoursLeft(client) : 0, h.isBarred(client) ? 1 : 0, h.rankOf(client));
        add(oneMoreOrNone(h::fallToCallByTrying, client), oneMoreOrNone(h::fallToCallByHalving, client));
        add(h.wouldSell(client), h.wouldLose(client));
    }

    private static long oneMoreOrNone(IntUnaryOperator fall, int client) {
        try {
            return fall.applyAsInt(client) + 1L;
        } catch (IllegalStateException covered) {
            return 0;
        }
    }

    private void add(long... more) {
        for (long value : more) {
            values.add(value);
        }
    }
}
