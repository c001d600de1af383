import java.util.function.Consumer;
import java.util.function.Supplier;

/**
 * What the tests of single statements have in common. Each statement of the document is named by "says", with its
 * checks behind it, or by "noEdge", if it names no boundary case; EdgeTest finds those that are not named.
 */
abstract class Edges {
    static final Checks C = new Checks();
    static final Document D = Document.read();

    static final Class<IndexOutOfBoundsException> NO_PLACE = IndexOutOfBoundsException.class;
    static final Class<IllegalArgumentException> NO_ARGUMENT = IllegalArgumentException.class;
    static final Class<IllegalStateException> NO_STATE = IllegalStateException.class;

    private static int heldBefore = -1;

    interface WithValue {
        void call(PledgeHouse house, int value);
    }

    interface Answer {
        long of(PledgeHouse house, int value);
    }

    abstract void tell();

    static void promise(int number) {
        section("Promise " + number);
    }

    static void section(String title) {
        endStatement();
        C.about(title);
        C.that("there is no such section", D.open(title));
    }

    /** The checks that follow are those of this statement alone. */
    static void says(String statement) {
        endStatement();
        C.about(D.openSection() + " | " + statement);
        C.that("the document does not say so, or it is told twice", D.tell(statement));
        heldBefore = C.count();
    }

    static void noEdge(String... statements) {
        for (String statement : statements) {
            says(statement);
            heldBefore = -1;
        }
    }

    /** A statement that is named without a check behind it has no test. */
    static void endStatement() {
        if (heldBefore >= 0) {
            C.that("there is no check", C.count() > heldBefore);
        }
        heldBefore = -1;
    }

    static void due(String call, long got, long want) {
        C.due(call, got, want);
    }

    static void due(String call, boolean got, boolean want) {
        C.due(call, got, want);
    }

    static void due(String call, double got, double want) {
        C.due(call, got, want);
    }

    static void refuses(PledgeHouse house, Class<?> with, Consumer<PledgeHouse> call) {
        C.throwing(house, "a call to be refused", () -> call.accept(house), with);
    }

    static void refuses(PledgeHouse house, Class<?> with, WithValue call, int... values) {
        for (int value : values) {
            C.throwing(house, "a call with " + value, () -> call.call(house, value), with);
        }
    }

    /** What is next to the range, and what is far from it, is refused; cut to a byte or a short it would be in range. */
    static void refusesBeside(int least, int most, PledgeHouse house, Class<?> with, WithValue call) {
        for (int far : new int[] {Integer.MIN_VALUE, -65536 + most, -1, 256 + least, 65536 + least, Integer.MAX_VALUE}) {
            if (far < least || far > most) {
                refuses(house, with, call, far);
            }
        }
        refuses(house, with, call, least - 1, most + 1);
    }

    /** Each value of the range is taken on a house of its own, and leaves there what is due. */
    static void takes(int least, int most, Supplier<PledgeHouse> houses, WithValue call, Answer left, Answer want) {
        for (int value = least; value <= most; value++) {
            PledgeHouse house = houses.get();
            long due = want.of(house, value);
            call.call(house, value);
            due("what a call with " + value + " leaves", left.of(house, value), due);
        }
    }

    static void noSuchClient(PledgeHouse house, WithValue call) {
        refuses(house, NO_PLACE, call, -1, 8, Integer.MIN_VALUE, Integer.MAX_VALUE, 256, 65536, -65536);
    }

    static void noSuchKind(PledgeHouse house, WithValue call) {
        refuses(house, NO_PLACE, call, -1, 6, 7, Integer.MIN_VALUE, Integer.MAX_VALUE, 256, 65536, -65536);
    }

    /** For each client, 0 to 7, what is due. */
    static void clients(PledgeHouse house, Answer answer, long... want) {
        for (int client = 0; client < 8; client++) {
            due("the answer for client " + client, answer.of(house, client), want[client % want.length]);
        }
    }

    /** For each kind, 0 to 5, what is due. */
    static void kinds(PledgeHouse house, Answer answer, long... want) {
        for (int kind = 0; kind < 6; kind++) {
            due("the answer for kind " + kind, answer.of(house, kind), want[kind % want.length]);
        }
    }

    /** The same house with one saved state alone, so that there is room for more. */
    static PledgeHouse withOneState(PledgeHouse house) {
        house.keep(0);
        while (house.savedStates() > 0) {
            house.undo();
        }
        house.goBack(0);
        return house;
    }

    /** One more state is saved, and to undo is to have all as it was. */
    static void undoable(PledgeHouse prepared, Consumer<PledgeHouse> call) {
        PledgeHouse house = withOneState(prepared);
        long before = house.digest();
        call.accept(house);
        due("savedStates behind it", house.savedStates(), 2);
        house.undo();
        due("digest behind its undo", house.digest(), before);
    }
}
