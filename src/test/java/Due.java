/** Compares answers with those that are due, prints the wrong ones, and ends with 1 if there was one. */
final class Due {
    interface Call {
        Object answer();
    }

    interface Deed {
        void happen();
    }

    private int asked = 0;
    private int wrong = 0;

    void is(Object want, String told, Call call) {
        Object got;
        try {
            got = call.answer();
        } catch (RuntimeException e) {
            got = e.getClass().getSimpleName();
        }
        compare(want, told, got);
    }

    void happens(String told, Deed deed) {
        is("nothing", told, () -> {
            deed.happen();
            return "nothing";
        });
    }

    void noIndex(String told, Deed deed) {
        fails("IndexOutOfBoundsException", told, deed);
    }

    void noArgument(String told, Deed deed) {
        fails("IllegalArgumentException", told, deed);
    }

    void noState(String told, Deed deed) {
        fails("IllegalStateException", told, deed);
    }

    private void fails(String name, String told, Deed deed) {
        is(name, told, () -> {
            deed.happen();
            return "nothing";
        });
    }

    private void compare(Object want, String told, Object got) {
        asked++;
        if (!want.equals(got)) {
            wrong++;
            System.out.println(told + " answered " + got + ", due is " + want);
        }
    }

    /** A fleet with such nodes, a rack and a room each, and one file. */
    static BlockFleet fleet(int... racksAndRooms) {
        BlockFleet x = new BlockFleet();
        for (int i = 0; i + 1 < racksAndRooms.length; i += 2) {
            x.node(racksAndRooms[i], racksAndRooms[i + 1]);
        }
        x.file();
        return x;
    }

    void copies(BlockFleet x, int piece, int... nodes) {
        is(nodes.length, "copies of " + piece, () -> x.piece(piece, 1));
        for (int i = 0; i < nodes.length; i++) {
            int place = i;
            is(nodes[i], "copyAt(" + piece + ", " + place + ")", () -> x.copyAt(piece, place));
        }
    }

    void end() {
        System.out.println(asked + " answers, " + wrong + " of them wrong");
        if (wrong != 0) {
            System.exit(1);
        }
    }
}
