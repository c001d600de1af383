/** Counts checks, and prints those that do not hold. */
final class Checks {
    interface Call {
        void run();
    }

    private int held = 0;
    private int failed = 0;
    private String topic = "";

    int count() {
        return held + failed;
    }

    void about(String newTopic) {
        topic = newTopic;
    }

    void due(String call, long got, long want) {
        that(call + " answered " + got + ", due is " + want, got == want);
    }

    void due(String call, boolean got, boolean want) {
        that(call + " answered " + got + ", due is " + want, got == want);
    }

    void due(String call, double got, double want) {
        that(call + " answered " + got + ", due is " + want,
                Double.doubleToLongBits(got) == Double.doubleToLongBits(want));
    }

    void that(String complaint, boolean holds) {
        if (holds) {
            held++;
        } else {
            failed++;
            System.out.println(topic + ": " + complaint);
        }
    }

    void noPlace(PledgeHouse house, String call, Call run) {
        throwing(house, call, run, IndexOutOfBoundsException.class);
    }

    void noArgument(PledgeHouse house, String call, Call run) {
        throwing(house, call, run, IllegalArgumentException.class);
    }

    void noState(PledgeHouse house, String call, Call run) {
        throwing(house, call, run, IllegalStateException.class);
    }

    /** A call that throws must also leave everything as it is, so the digest is looked at on both sides. */
    void throwing(PledgeHouse house, String call, Call run, Class<?> want) {
        long before = house.digest();
        Class<?> got = null;
        try {
            run.run();
        } catch (RuntimeException thrown) {
            got = thrown.getClass();
        }
        that(call + " threw " + got + ", due is " + want, got == want);
        that(call + " changed something", house.digest() == before);
    }

    void end(String name) {
        System.out.println(name + ": " + held + " checks held, " + failed + " did not");
        if (failed > 0 || held == 0) {
            System.exit(1);
        }
    }
}
