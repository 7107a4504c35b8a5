/** Counts and prints answers that are not the ones that are due. */
final class Check {
    private static int wrong = 0;

    private Check() {
    }

    static void due(String call, Object got, Object want) {
        if (!got.equals(want)) {
            wrong++;
            System.out.println(call + " answered " + got + ", due is " + want);
        }
    }

    static void due(String call, long got, long want) {
        due(call, (Object) got, (Object) want);
    }

    static void due(String call, boolean got, boolean want) {
        due(call, (Object) got, (Object) want);
    }

    static void fails(String call, Class<? extends RuntimeException> want, Runnable run) {
        Object got = "no exception";
        try {
            run.run();
        } catch (RuntimeException e) {
            got = e.getClass();
        }
        due(call, got, want);
    }

    static void end() {
        if (wrong > 0) {
            System.out.println(wrong + " answers are not as due");
            System.exit(1);
        }
    }
}
