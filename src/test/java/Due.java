/** Compares answers with those that are due, prints the wrong ones, and ends with 1 if there was one. */
final class Due {
    interface Call {
        Object answer();
    }

    interface Deed {
        void happen();
    }

    /** Makes the same fleet, time after time. */
    interface Maker {
        BlockFleet make();
    }

    interface DeedWith {
        void happen(BlockFleet x);
    }

    private int asked = 0;
    private int wrong = 0;

    void is(Object want, String told, Call call) {
        compare(want, told, answer(call));
    }

    /** What the call answers, or what it throws. */
    static Object answer(Call call) {
        try {
            return call.answer();
        } catch (RuntimeException e) {
            String name = e.getClass().getSimpleName();
            return isThrownByTheLibrary(e) ? name + " of the library" : name;
        }
    }

    /** The program looks at an index before it is used, so no exception may come from within a list. */
    private static boolean isThrownByTheLibrary(RuntimeException e) {
        StackTraceElement[] calls = e.getStackTrace();
        String thrower = calls.length == 0 ? "" : calls[0].getClassName();
        return thrower.startsWith("java.") || thrower.startsWith("jdk.");
    }

    void happens(String told, Deed deed) {
        is("nothing", told, () -> {
            deed.happen();
            return "nothing";
        });
    }

    void noIndex(String told, Deed deed) {
        fails("IndexOutOfBoundsException", told, deed);
    }

    void noArgument(String told, Deed deed) {
        fails("IllegalArgumentException", told, deed);
    }

    void noState(String told, Deed deed) {
        fails("IllegalStateException", told, deed);
    }

    void refusedIndex(String told, Maker maker, DeedWith deed, int... pieces) {
        refused("IndexOutOfBoundsException", told, maker, deed, pieces);
    }

    void refusedArgument(String told, Maker maker, DeedWith deed, int... pieces) {
        refused("IllegalArgumentException", told, maker, deed, pieces);
    }

    void refusedState(String told, Maker maker, DeedWith deed, int... pieces) {
        refused("IllegalStateException", told, maker, deed, pieces);
    }

    /** A call that throws changes nothing: the fleet is then as one on which the call was not made. */
    private void refused(String name, String told, Maker maker, DeedWith deed, int... pieces) {
        BlockFleet called = maker.make();
        fails(name, told, () -> deed.happen(called));
        is(Seen.all(maker.make(), pieces), told + ", and then all there is", () -> Seen.all(called, pieces));
    }

    private void fails(String name, String told, Deed deed) {
        is(name, told, () -> {
            deed.happen();
            return "nothing";
        });
    }

    private void compare(Object want, String told, Object got) {
        asked++;
        if (!want.equals(got)) {
            wrong++;
            System.out.println(told + " answered " + got + ", due is " + want);
        }
    }

    /** A fleet with such nodes, a rack and a room each, and one file. */
    static BlockFleet fleet(int... racksAndRooms) {
        BlockFleet x = new BlockFleet();
        for (int i = 0; i + 1 < racksAndRooms.length; i += 2) {
            x.node(racksAndRooms[i], racksAndRooms[i + 1]);
        }
        x.file();
        return x;
    }

    void copies(BlockFleet x, int piece, int... nodes) {
        is(nodes.length, "copies of " + piece, () -> x.piece(piece, 1));
        for (int i = 0; i < nodes.length; i++) {
            int place = i;
            is(nodes[i], "copyAt(" + piece + ", " + place + ")", () -> x.copyAt(piece, place));
        }
    }

    void end() {
        System.out.println(asked + " answers, " + wrong + " of them wrong");
        if (wrong != 0) {
            System.exit(1);
        }
    }
}
