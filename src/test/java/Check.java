/** Collects what the tests of one file find wrong, and ends the program by it. */
final class Check {
    static final Class<IllegalArgumentException> ARGUMENT = IllegalArgumentException.class;
    static final Class<IllegalStateException> STATE = IllegalStateException.class;
    static final Class<IndexOutOfBoundsException> INDEX = IndexOutOfBoundsException.class;

    /** Makes the same house anew each time. */
    interface Scene {
        WeftHouse make();
    }

    /** One call of a house; a boolean answer counts 1 or 0. */
    interface Call {
        long on(WeftHouse house);
    }

    private int checks = 0;
    private int wrong = 0;
    private String sentence = "";

    /** Runs what tests a sentence of the document; if it breaks off, the other sentences go on. */
    void sentence(String words, Runnable test) {
        sentence = "\"" + words + "\": ";
        int before = checks;
        try {
            test.run();
        } catch (RuntimeException e) {
            report("the test broke off: " + e);
        }
        due("how many things are checked", checks > before, true);
        sentence = "";
    }

    void due(String what, long got, long want) {
        checks++;
        if (got != want) {
            report(what + " answered " + got + ", due is " + want);
        }
    }

    void due(String what, boolean got, boolean want) {
        due(what, got ? 1 : 0, want ? 1 : 0);
    }

    void due(String what, String got, String want) {
        checks++;
        if (!got.equals(want)) {
            report(what + " answered " + got + ", due is " + want);
        }
    }

    /** The call must answer this on the house as it is made. */
    void takes(String what, Scene scene, long want, Call call) {
        due(what, answer(call, scene.make()), Long.toString(want));
    }

    /** The call must throw just this exception; what it changes is not looked at. */
    void throwsOf(String what, WeftHouse house, Class<? extends RuntimeException> due, Call call) {
        due(what, answer(call, house), due.getSimpleName());
    }

    /** The call must throw just this exception, and the house must answer as if it had not been. */
    void refuses(String what, Scene scene, Class<? extends RuntimeException> due, Call call) {
        due(what, answer(call, scene.make()), due.getSimpleName());
        for (int probe = 0; probe < Probes.COUNT; probe++) {
            WeftHouse after = scene.make();
            answer(call, after);
            String want = Probes.ask(probe, scene.make());
            String got = Probes.ask(probe, after);
            checks++;
            if (!got.equals(want)) {
                report(what + " has changed something: probe " + probe + "\n  " + got + "\n  " + want);
                return;
            }
        }
    }

    static String answer(Call call, WeftHouse house) {
        try {
            return Long.toString(call.on(house));
        } catch (RuntimeException e) {
            return e.getClass().getSimpleName();
        }
    }

    void report(String what) {
        wrong++;
        System.out.println("  wrong: " + sentence + what);
    }

    void finish() {
        System.out.println("  " + checks + " checks, " + wrong + " wrong");
        if (wrong != 0 || checks == 0) {
            System.exit(1);
        }
    }
}
