/** Compares answers with those that are due, prints the wrong ones, and counts. */
final class Due {
    interface Call {
        long run();
    }

    interface Deed {
        void run();
    }

    private int looked = 0;
    private int wrong = 0;

    void is(String what, long got, long want) {
        looked++;
        if (got != want) {
            complain(what + " answered " + got + ", due is " + want);
        }
    }

    void is(String what, boolean got, boolean want) {
        looked++;
        if (got != want) {
            complain(what + " answered " + got + ", due is " + want);
        }
    }

    void same(String what, String got, String want) {
        looked++;
        if (!got.equals(want)) {
            complain(what + " answered " + got + ", due is " + want);
        }
    }

    void refuses(String what, Class<? extends RuntimeException> want, Deed deed) {
        looked++;
        try {
            deed.run();
        } catch (RuntimeException e) {
            if (e.getClass() != want) {
                complain(what + " throws " + e.getClass().getSimpleName() + ", due is " + want.getSimpleName());
            }
            return;
        }
        complain(what + " throws nothing, due is " + want.getSimpleName());
    }

    void illegalArgument(String what, Deed deed) {
        refuses(what, IllegalArgumentException.class, deed);
    }

    void illegalState(String what, Deed deed) {
        refuses(what, IllegalStateException.class, deed);
    }

    void outOfBounds(String what, Deed deed) {
        refuses(what, IndexOutOfBoundsException.class, deed);
    }

    void unsupported(String what, Deed deed) {
        refuses(what, UnsupportedOperationException.class, deed);
    }

    private void complain(String text) {
        wrong++;
        System.out.println(text);
    }

    void finish(String name) {
        System.out.println(name + ": " + looked + " looked at, " + wrong + " wrong");
        if (wrong != 0) {
            System.exit(1);
        }
    }
}
