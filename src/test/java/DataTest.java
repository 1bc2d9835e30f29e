/** Promises 28 to 32: data. */
public final class DataTest {
    public static void main(String[] args) {
        outOfRange();
        expand();
        units();
        migrate();
        lastOnes();
        halt();
        contract();
        Check.finish();
    }

    private static void outOfRange() {
        ReleaseHouse house = new ReleaseHouse();
        int[][] wrong = {{-1, 1}, {4, 1}, {0, -1}, {0, 8}, {0, 32}};
        for (int[] w : wrong) {
            Check.badArgument("28: expand", () -> house.expand(w[0], w[1]));
            Check.badArgument("29: migrate from", () -> house.migrate(w[0], w[1], 0));
            Check.badArgument("29: migrate to", () -> house.migrate(w[0], 0, w[1]));
            Check.badArgument("31: contract", () -> house.contract(w[0], w[1]));
            Check.badArgument("32: units", () -> house.units(w[0], w[1]));
        }
        Check.badArgument("29: both the same", () -> house.migrate(0, 0, 0));
        Check.badArgument("30: halt", () -> house.halt(4));
        Check.badArgument("30: halt below 0", () -> house.halt(-1));
    }

    private static void expand() {
        ReleaseHouse house = new ReleaseHouse();
        Check.badState("28: 0 is open", () -> house.expand(3, 0));
        house.expand(3, 7);
        Check.badState("28: 7 is open now", () -> house.expand(3, 7));
        house.expand(2, 7);
        house.contract(3, 7);
        house.expand(3, 7);
        Check.same("28: it may be written", house.mayGo(Given.withData(house, 3, 255, 7)), 0);
        Check.same("28: another one may not", house.mayGo(Given.withData(house, 3, 255, 6)), 7);
    }

    private static void units() {
        ReleaseHouse house = new ReleaseHouse();
        int both = Given.program(house, Given.promote(0), Given.promote(1), Given.await(99));
        int shares = Given.program(house, Given.share(0, 1), Given.share(1, 100), Given.await(99));
        house.release(Given.easy(house, 2), both);
        house.pass(1);
        Check.same("32: promoted behind the data", house.units(2, 0), 0);
        house.pass(1);
        Check.same("32: a stable one", house.units(2, 0), 1);
        house.pass(1);
        Check.same("32: a stable one in two rings", house.units(2, 0), 3);
        house.expand(2, 5);
        house.release(Given.withData(house, 2, 255, 5), shares);
        house.pass(3);
        Check.same("32: the stable ones go on", house.units(2, 0), 9);
        Check.same("32: the candidates, one and two", house.units(2, 5), 3);
        Check.same("32: another service", house.units(1, 0), 0);
        house.begin(2, 0);
        house.stop(1);
        house.pass(1);
        Check.same("32: a session adds nothing", house.units(2, 5), 3);
    }

    private static void migrate() {
        ReleaseHouse house = new ReleaseHouse();
        Check.badState("29: to is not open", () -> house.migrate(0, 0, 1));
        house.expand(0, 1);
        house.expand(0, 2);
        int promoting = Given.program(house, Given.promote(0), Given.promote(1), Given.await(99));
        house.release(Given.withData(house, 0, 3, 0), promoting);
        house.pass(2);
        house.pass(3);
        Check.same("29: stored", house.units(0, 0), 7);
        Check.badState("29: a live one does not read it", () -> house.migrate(0, 0, 2));
        house.migrate(0, 0, 1);
        Check.badState("29: one runs", () -> house.migrate(0, 0, 1));
        house.pass(1);
        Check.same("29: five at once, behind what is added", house.units(0, 0), 4);
        Check.same("29: five more", house.units(0, 1), 5);
        house.pass(1);
        Check.same("29: 5 of 6", house.units(0, 0), 1);
        house.pass(1);
        Check.same("29: no more than there are", house.units(0, 0), 0);
        Check.same("29: all of them", house.units(0, 1), 13);
        house.halt(0);
        house.migrate(0, 7, 0);
        house.pass(1);
        Check.same("29: from one that is not open", house.units(0, 0), 2);
        house.migrate(1, 1, 0);
        Check.same("29: one for each service", house.halt(1), 0);
    }

    private static void lastOnes() {
        ReleaseHouse house = new ReleaseHouse();
        house.expand(3, 7);
        house.release(Given.withData(house, 3, 129, 0), Given.program(house, Given.promote(2)));
        house.pass(1);
        house.migrate(3, 0, 7);
        house.pass(1);
        Check.same("32: the last service and schema", house.units(3, 7), 1);
        Check.same("30: the last service", house.halt(3), 1);
        house.expand(3, 6);
        Check.badState("29: one that is live in one place does not read it", () -> house.migrate(3, 0, 6));
    }

    private static void halt() {
        ReleaseHouse house = new ReleaseHouse();
        Check.badState("30: none runs", () -> house.halt(0));
        house.expand(0, 1);
        Given.stable(house, 0, Given.program(house, Given.promote(0)));
        house.pass(7);
        house.migrate(0, 0, 1);
        house.pass(2);
        Check.same("30: how many it has moved", house.halt(0), 9);
        Check.badState("30: none runs any more", () -> house.halt(0));
        house.pass(4);
        Check.same("30: it does not go on", house.units(0, 1), 9);
        house.migrate(0, 0, 1);
        Check.same("30: another one has moved nothing", house.halt(0), 0);
    }

    private static void contract() {
        ReleaseHouse house = new ReleaseHouse();
        Check.badState("31: is not open", () -> house.contract(0, 1));
        house.contract(1, 0);
        Check.badState("31: is not open any more", () -> house.contract(1, 0));
        house.expand(0, 1);
        int program = Given.program(house, Given.promote(0), Given.await(99));
        house.release(Given.withData(house, 0, 3, 0), program);
        house.pass(1);
        Check.badState("31: a live one writes it", () -> house.contract(0, 0));
        int next = house.release(Given.withData(house, 0, 3, 1), program);
        house.pass(1);
        Check.badState("31: is stored", () -> house.contract(0, 0));
        house.begin(0, 0);
        house.migrate(0, 0, 1);
        house.pass(1);
        Check.same("31: not stored any more", house.units(0, 0), 0);
        Check.badState("31: a migration to it runs", () -> house.contract(0, 1));
        house.contract(0, 0);
        Check.same("31: nothing goes back to it", house.stop(next), 1);
        Check.badState("31: written, not stored", () -> house.contract(0, 1));
        ReleaseHouse other = new ReleaseHouse();
        other.expand(0, 1);
        other.migrate(0, 0, 1);
        Check.badState("31: migrated to, neither stored nor written", () -> other.contract(0, 1));
        other.halt(0);
        other.contract(0, 1);
        Check.badState("31: closed", () -> other.migrate(0, 0, 1));
    }
}
