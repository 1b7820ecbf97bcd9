/** Values just inside and just outside, and calls that are refused and change nothing. */
final class Edges {
    interface Made {
        Ironbark firm();
    }

    interface Deed {
        void on(Ironbark x);
    }

    interface DeedWith {
        void on(Ironbark x, int number);
    }

    private Edges() {
    }

    /** The call is refused so, and a firm on which it was tried shows the same as one on which it was not. */
    static void refused(Made made, Class<? extends Exception> due, Deed deed) {
        refused("refused", made, due, deed);
    }

    static void refused(String what, Made made, Class<? extends Exception> due, Deed deed) {
        Ironbark once = made.firm();
        Check.refusedDeed(what, due, () -> deed.on(once));
        for (int way = 0; way < Shown.WAYS; way++) {
            Ironbark x = made.firm();
            attempt(deed, x);
            String changed = Shown.difference(Shown.by(way, x), Shown.by(way, made.firm()));
            Check.same(what + ", what it changed", changed, "");
        }
    }

    private static void attempt(Deed deed, Ironbark x) {
        try {
            deed.on(x);
        } catch (RuntimeException e) {
            // Which one it is was looked at by the caller.
        }
    }

    /** There is none of the number that is just too small or too large, nor of those at the ends of int. */
    static void noSuch(Made made, int count, DeedWith deed) {
        for (int number : new int[] {-1, count, Integer.MIN_VALUE, Integer.MAX_VALUE}) {
            refused("number " + number, made, Check.INDEX, x -> deed.on(x, number));
        }
    }

    /** What is just below the least, just above the most, or at the ends of int, is out of range. */
    static void outside(Made made, int least, int most, DeedWith deed) {
        for (int number : new int[] {least - 1, most + 1, Integer.MIN_VALUE, Integer.MAX_VALUE}) {
            refused("number " + number, made, Check.ARGUMENT, x -> deed.on(x, number));
        }
    }

    /** None of these is refused. */
    static void inside(Made made, DeedWith deed, int... numbers) {
        for (int number : numbers) {
            Ironbark x = made.firm();
            String got = "done";
            try {
                deed.on(x, number);
            } catch (RuntimeException e) {
                got = e.toString();
            }
            Check.same("number " + number, got, "done");
        }
    }
}
