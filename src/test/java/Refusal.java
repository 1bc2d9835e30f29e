/** Looks at calls that are refused: what they throw, and that nothing has changed by them. */
final class Refusal {
    interface World {
        ReleaseHouse make();
    }

    interface Use {
        void of(ReleaseHouse house);
    }

    interface UseOfNumber {
        void of(ReleaseHouse house, int number);
    }

    private Refusal() {
    }

    static void noSuch(String what, World world, Use use) {
        isRefused(what, world, use, IndexOutOfBoundsException.class);
    }

    static void badArgument(String what, World world, Use use) {
        isRefused(what, world, use, IllegalArgumentException.class);
    }

    static void badState(String what, World world, Use use) {
        isRefused(what, world, use, IllegalStateException.class);
    }

    /** Both ends of a range are taken; what is next to it is refused, and so is what is farthest off. */
    static void range(World world, int least, int most, UseOfNumber use) {
        takes(world, least, use);
        takes(world, most, use);
        for (int number : new int[] {least - 1, most + 1, Integer.MIN_VALUE, Integer.MAX_VALUE}) {
            badArgument("" + number, world, house -> use.of(house, number));
        }
    }

    /** The first and the last of some things are taken; there is none below and none above them. */
    static void numbers(World world, int count, UseOfNumber use) {
        takes(world, 0, use);
        takes(world, count - 1, use);
        for (int number : new int[] {-1, count, Integer.MIN_VALUE, Integer.MAX_VALUE}) {
            noSuch("" + number, world, house -> use.of(house, number));
        }
    }

    private static void takes(World world, int number, UseOfNumber use) {
        ReleaseHouse house = world.make();
        try {
            use.of(house, number);
            Check.yes(number + " is taken", true);
        } catch (RuntimeException thrown) {
            Check.same(number + " is taken", thrown.toString(), "no exception");
        }
    }

    private static void isRefused(String what, World world, Use use, Class<? extends RuntimeException> due) {
        ReleaseHouse house = world.make();
        Check.isThrown(what, () -> use.of(house), due);
        Check.same(what + ", changes nothing", Probe.of(house), Probe.of(world.make()));
    }
}
