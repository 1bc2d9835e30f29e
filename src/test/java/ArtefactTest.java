/** Promises 1 to 6: a new object, artefacts and the proof. */
public final class ArtefactTest {
    private static final int NONE = ReleaseHouse.NONE;

    public static void main(String[] args) {
        newObject();
        artefact();
        artefactOutOfRange();
        forbids();
        isLive();
        mayGoByProof();
        mayGoByData();
        mayGoByNeeds();
        forbidden();
        Check.finish();
    }

    private static void newObject() {
        ReleaseHouse house = new ReleaseHouse();
        Check.same("NONE", ReleaseHouse.NONE, -1);
        Check.no("1: a new controller is dead", house.isDead());
        Check.same("1: effects", house.effects(), 0);
        Check.same("1: forbidden", house.forbidden(), 0);
        Check.same("1: stale", house.stale(), 0);
        for (int service = 0; service < 4; service++) {
            for (int ring = 0; ring < 3; ring++) {
                Check.same("1: stable", house.stable(service, ring), NONE);
                Check.same("1: candidate", house.candidate(service, ring), NONE);
                Check.same("1: share", house.share(service, ring), 0);
                Check.same("1: capital", house.capital(service, ring), 1.0);
                Check.same("1: left", house.left(ring), 12);
            }
            Check.same("1: units", house.units(service, 0), 0);
        }
        Check.same("1: it is minute 0", house.train(1), 0);
        new ReleaseHouse().artefact(0, 0, 0, 0, NONE, 1, 0, false, true);
        Check.noSuch("1: objects have nothing in common", () -> house.isLive(0));
    }

    private static void artefact() {
        ReleaseHouse house = new ReleaseHouse();
        for (int i = 0; i < 30; i++) {
            Check.same("2: its number", house.artefact(i % 4, 5, 255, 0, NONE, 255, 7, true, false), i);
        }
        Check.badState("2: there are 30", () -> house.artefact(0, 0, 0, 0, NONE, 1, 0, false, true));
        Check.badArgument("2: the argument goes first",
                () -> house.artefact(4, 0, 0, 0, NONE, 1, 0, false, true));
        Check.same("2: widest", new ReleaseHouse().artefact(3, 5, 255, 255, 0, 255, 7, true, true), 0);
        Check.same("2: narrowest", new ReleaseHouse().artefact(0, 0, 0, 1, 3, 1, 0, false, false), 0);
    }

    private static void artefactOutOfRange() {
        ReleaseHouse house = new ReleaseHouse();
        int[][] wrong = {
            {-1, 0, 0, 0, -1, 1, 0}, {4, 0, 0, 0, -1, 1, 0}, {0, -1, 0, 0, -1, 1, 0}, {0, 6, 0, 0, -1, 1, 0},
            {0, 0, -1, 0, -1, 1, 0}, {0, 0, 256, 0, -1, 1, 0}, {0, 0, 0, -1, 1, 1, 0}, {0, 0, 0, 256, 1, 1, 0},
            {0, 0, 0, 0, 1, 1, 0}, {0, 0, 0, 1, -1, 1, 0}, {0, 0, 0, 1, 0, 1, 0}, {0, 0, 0, 1, 4, 1, 0},
            {0, 0, 0, 0, -2, 1, 0}, {0, 0, 0, 1, -2, 1, 0}, {0, 0, 0, 0, -1, 0, 0}, {0, 0, 0, 0, -1, 257, 0},
            {0, 0, 0, 0, -1, 255, 8}, {0, 0, 0, 0, -1, 255, -1}, {0, 0, 0, 0, -1, 254, 0}, {0, 0, 0, 0, -1, 1, 1},
            {0, 0, 0, 0, -1, 1, 32}, {Integer.MIN_VALUE, 0, 0, 0, -1, 1, 0}, {0, 0, 0, 0, -1, 1, Integer.MAX_VALUE},
        };
        for (int[] a : wrong) {
            Check.badArgument("2: out of range " + java.util.Arrays.toString(a),
                    () -> house.artefact(a[0], a[1], a[2], a[3], a[4], a[5], a[6], false, true));
        }
        Check.same("2: none of them was made", Given.easy(house, 0), 0);
    }

    private static void forbids() {
        ReleaseHouse house = new ReleaseHouse();
        int reads0 = house.artefact(0, 0, 1, 0, NONE, 1, 0, false, true);
        int reads01 = house.artefact(0, 0, 0, 0, NONE, 3, 1, false, true);
        int reads1 = house.artefact(0, 0, 0, 0, NONE, 2, 1, false, true);
        int needs0 = house.artefact(1, 0, 2, 3, 0, 1, 0, false, true);
        int needs1 = house.artefact(0, 0, 1, 1, 1, 1, 0, false, true);
        int needsNone = house.artefact(2, 0, 0, 0, NONE, 4, 2, false, true);
        Check.same("3: the first does not read", house.forbids(reads0, reads01), 1);
        Check.same("3: the other does not read", house.forbids(reads01, reads0), 2);
        Check.same("3: neither reads, the first reason", house.forbids(reads0, reads1), 1);
        Check.same("3: both read", house.forbids(reads01, reads1), 0);
        Check.same("3: with itself", house.forbids(reads0, reads0), 0);
        Check.same("3: the first needs more than is kept", house.forbids(needs0, reads0), 3);
        Check.same("3: the other needs more than is kept", house.forbids(reads0, needs0), 4);
        Check.same("3: both need, the first reason", house.forbids(needs0, needs1), 3);
        Check.same("3: both need, the other way round", house.forbids(needs1, needs0), 3);
        Check.same("3: unlike services read what they like", house.forbids(needsNone, reads0), 0);
        int keepsAll = house.artefact(0, 0, 3, 0, NONE, 1, 0, false, true);
        Check.same("3: all that is needed is kept", house.forbids(needs0, keepsAll), 0);
        int other = house.artefact(3, 0, 0, 0, NONE, 1, 0, false, true);
        Check.same("3: needs nothing of that service", house.forbids(needs0, other), 0);
        Check.noSuch("3: no such first", () -> house.forbids(8, 0));
        Check.noSuch("3: no such other", () -> house.forbids(0, 8));
        Check.noSuch("3: below 0", () -> house.forbids(0, -1));
    }

    private static void isLive() {
        ReleaseHouse house = new ReleaseHouse();
        int program = Given.program(house, Given.share(0, 100), Given.promote(1));
        int first = Given.easy(house, 0);
        Check.no("4: made only", house.isLive(first));
        int release = house.release(first, program);
        Check.no("4: released only", house.isLive(first));
        house.pass(1);
        Check.yes("4: a candidate", house.isLive(first));
        house.begin(0, 0);
        house.stop(release);
        Check.yes("4: in a session", house.isLive(first));
        house.end(0, 0);
        Check.no("4: in none", house.isLive(first));
        house.release(first, program);
        house.pass(2);
        int second = Given.easy(house, 0);
        house.release(second, program);
        house.pass(1);
        Check.yes("4: stable in a ring", house.isLive(first));
        house.pass(1);
        Check.no("4: another one is stable", house.isLive(first));
        Check.yes("4: the other one", house.isLive(second));
        Check.noSuch("4: no such artefact", () -> house.isLive(2));
        Check.noSuch("4: below 0", () -> house.isLive(-1));
    }

    private static void mayGoByProof() {
        ReleaseHouse house = new ReleaseHouse();
        int promoting = Given.program(house, Given.promote(0));
        int live = house.artefact(0, 0, 1, 0, NONE, 3, 0, false, true);
        house.release(live, promoting);
        house.pass(1);
        Check.same("5: is live", house.mayGo(live), 0);
        Check.same("5: gets on", house.mayGo(Given.easy(house, 0)), 0);
        int blind = Given.withData(house, 0, 4, 2);
        Check.same("5: the proof goes ahead of the data", house.mayGo(blind), 6);
        int needy = house.artefact(1, 0, 0, 3, 0, 1, 0, false, true);
        Check.same("5: needs what is not kept", house.mayGo(needy), 6);
        int modest = house.artefact(1, 0, 0, 1, 0, 1, 0, false, true);
        Check.same("5: needs what is kept", house.mayGo(modest), 0);
        Check.noSuch("5: no such artefact", () -> house.mayGo(5));
    }

    private static void mayGoByData() {
        ReleaseHouse house = new ReleaseHouse();
        int writer = Given.withData(house, 0, 3, 1);
        Check.same("5: writes a schema that is not open", house.mayGo(writer), 7);
        house.expand(0, 1);
        Check.same("5: it is open now", house.mayGo(writer), 0);
        int release = house.release(writer, Given.program(house, Given.share(0, 10), Given.await(9)));
        house.pass(2);
        house.stop(release);
        Check.same("5: a unit is stored", house.units(0, 1), 1);
        int old = Given.withData(house, 0, 1, 0);
        Check.same("5: does not read what is stored", house.mayGo(old), 7);
        Check.same("5: of another service", house.mayGo(Given.withData(house, 1, 1, 0)), 0);
        house.migrate(0, 1, 0);
        house.pass(1);
        Check.same("5: nothing is stored of that", house.mayGo(old), 0);
        house.halt(0);
        house.expand(0, 2);
        house.migrate(0, 0, 2);
        Check.same("5: does not read what is migrated to", house.mayGo(old), 7);
        Check.same("5: reads all of it", house.mayGo(Given.withData(house, 0, 7, 0)), 0);
    }

    private static void mayGoByNeeds() {
        ReleaseHouse house = new ReleaseHouse();
        int kept = Given.easy(house, 0);
        int needy = house.artefact(1, 0, 0, 1, 0, 1, 0, false, true);
        Check.same("5: nothing of the service is live", house.mayGo(needy), 7);
        int sharing = Given.program(house, Given.share(0, 10), Given.await(9));
        int release = house.release(kept, sharing);
        house.pass(1);
        Check.same("5: one of the service is live", house.mayGo(needy), 0);
        house.release(needy, sharing);
        house.pass(1);
        house.stop(release);
        Check.same("5: itself is live, whatever it needs", house.mayGo(needy), 0);
        int likewise = house.artefact(1, 0, 0, 1, 0, 1, 0, false, true);
        Check.same("5: what it needs is gone", house.mayGo(likewise), 7);
    }

    private static void forbidden() {
        ReleaseHouse house = new ReleaseHouse();
        int promoting = Given.program(house, Given.promote(0));
        int elsewhere = Given.program(house, Given.promote(1));
        house.release(house.artefact(0, 0, 1, 0, NONE, 1, 0, false, true), promoting);
        house.release(house.artefact(1, 0, 0, 1, 0, 1, 0, false, true), promoting);
        house.release(house.artefact(1, 0, 0, 2, 0, 1, 0, false, true), elsewhere);
        house.expand(0, 1);
        house.release(house.artefact(0, 0, 1, 0, NONE, 3, 1, false, true), elsewhere);
        house.pass(3);
        Check.same("6: those that may are live", house.stable(1, 0), 1);
        Check.no("6: needs what is not kept", house.isLive(2));
        Check.no("6: writes what is not read", house.isLive(3));
        Check.same("6: no pair is forbidden", house.forbidden(), 0);
    }
}
