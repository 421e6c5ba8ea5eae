/** Counts the answers that are not as due; end() exits with 1 if there was one. */
final class Check {
    private int wrong = 0;
    private int looked = 0;
    private String promise = "";

    void promise(String name) {
        promise = name;
    }

    void same(String call, long got, long want) {
        looked++;
        if (got != want) {
            wrong++;
            System.out.println(promise + ": " + call + " answered " + got + ", due is " + want);
        }
    }

    void yes(String call, boolean got) {
        same(call, got ? 1 : 0, 1);
    }

    void no(String call, boolean got) {
        same(call, got ? 1 : 0, 0);
    }

    void badArgument(String call, Runnable run) {
        sameText(call, thrownBy(run), "IllegalArgumentException");
    }

    void badState(String call, Runnable run) {
        sameText(call, thrownBy(run), "IllegalStateException");
    }

    void fine(String call, Runnable run) {
        sameText(call, thrownBy(run), "nothing");
    }

    void sameText(String call, String got, String want) {
        looked++;
        if (!got.equals(want)) {
            wrong++;
            System.out.println(promise + ": " + call + " gave " + got + ", due is " + want);
        }
    }

    void end() {
        System.out.println(looked + " answers looked at, " + wrong + " not as due");
        if (wrong != 0) {
            System.exit(1);
        }
    }

    private static String thrownBy(Runnable run) {
        try {
            run.run();
            return "nothing";
        } catch (RuntimeException e) {
            return e.getClass().getSimpleName();
        }
    }
}
