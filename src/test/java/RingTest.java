/** Promises 20 to 27: rings and customers. */
public final class RingTest {
    public static void main(String[] args) {
        outOfRange();
        stableAndCandidate();
        sees();
        staysInAShare();
        seers();
        begin();
        fortySessions();
        lastOnes();
        end();
        wayOut();
        Check.finish();
    }

    private static void outOfRange() {
        ReleaseHouse house = new ReleaseHouse();
        int[][] wrong = {{-1, 0}, {4, 0}, {0, -1}, {0, 3}};
        for (int[] w : wrong) {
            Check.badArgument("20: stable", () -> house.stable(w[0], w[1]));
            Check.badArgument("21: candidate", () -> house.candidate(w[0], w[1]));
            Check.badArgument("22: share", () -> house.share(w[0], w[1]));
            Check.badArgument("27: wayOut", () -> house.wayOut(w[0], w[1]));
        }
        int[][] nobody = {{-1, 0}, {4, 0}, {0, -1}, {0, 200}, {0, Integer.MAX_VALUE}};
        for (int[] n : nobody) {
            Check.badArgument("23: sees", () -> house.sees(n[0], n[1]));
            Check.badArgument("25: begin", () -> house.begin(n[0], n[1]));
            Check.badArgument("26: end", () -> house.end(n[0], n[1]));
        }
    }

    private static void stableAndCandidate() {
        ReleaseHouse house = new ReleaseHouse();
        int program = Given.program(house, Given.share(2, 100), Given.share(2, 1), Given.promote(2));
        house.release(Given.easy(house, 3), program);
        house.pass(1);
        Check.same("21: candidate", house.candidate(3, 2), 0);
        Check.same("22: share", house.share(3, 2), 100);
        Check.same("20: none is stable", house.stable(3, 2), Given.NONE);
        Check.same("21: not in another ring", house.candidate(3, 1), Given.NONE);
        Check.same("21: not of another service", house.candidate(2, 2), Given.NONE);
        house.pass(1);
        Check.same("22: another share", house.share(3, 2), 1);
        house.pass(1);
        Check.same("20: stable", house.stable(3, 2), 0);
        Check.same("21: no candidate", house.candidate(3, 2), Given.NONE);
        Check.same("22: no share", house.share(3, 2), 0);
        Check.same("20: not in another ring", house.stable(3, 0), Given.NONE);
    }

    /** The places of the customers 0, 10, 20 for the service 1 are 11, 81, 51; of 1, 4 they are 48, 59. */
    private static void sees() {
        ReleaseHouse house = new ReleaseHouse();
        int stable = Given.stable(house, 1, Given.program(house, Given.promote(0)));
        int next = Given.easy(house, 1);
        house.release(next, Given.program(house, Given.share(0, 51), Given.share(0, 52), Given.share(1, 49)));
        house.pass(1);
        Check.same("23: below the share", house.sees(1, 0), next);
        Check.same("23: above it", house.sees(1, 10), stable);
        Check.same("23: the share itself", house.sees(1, 20), stable);
        house.pass(1);
        Check.same("23: just below it", house.sees(1, 20), next);
        house.pass(1);
        Check.same("23: another ring, below", house.sees(1, 1), next);
        Check.same("23: another ring, above", house.sees(1, 2), Given.NONE);
        Check.same("23: the ring 2", house.sees(1, 4), Given.NONE);
        Check.same("23: of another service", house.sees(0, 0), Given.NONE);
        house.begin(1, 20);
        house.stop(house.release(stable, Given.program(house, Given.await(9))));
        Given.stable(house, 1, 0);
        Check.same("23: the artefact of the session", house.sees(1, 20), next);
        Check.same("23: without one", house.sees(1, 0), 2);
    }

    private static void staysInAShare() {
        ReleaseHouse house = new ReleaseHouse();
        int[] shares = {1, 10, 50, 99, 100};
        int program = house.program();
        for (int share : shares) {
            house.step(program, 0, 2, share);
        }
        int artefact = Given.easy(house, 2);
        house.release(artefact, program);
        boolean[] saw = new boolean[200];
        for (int share : shares) {
            house.pass(1);
            for (int customer = 0; customer < 200; customer += 3) {
                boolean isSeen = house.sees(2, customer) == artefact;
                Check.no("23: goes as the share grows", saw[customer] && !isSeen);
                boolean isDue = customer % 10 >= 4 && (37 * customer + 22) % 100 < share;
                Check.yes("23: by the place", isSeen == isDue);
                saw[customer] = isSeen;
            }
        }
    }

    private static void seers() {
        ReleaseHouse house = new ReleaseHouse();
        int promoting = Given.program(house, Given.promote(0), Given.promote(1), Given.promote(2));
        int artefact = Given.easy(house, 0);
        house.release(artefact, promoting);
        house.pass(3);
        Check.same("24: ring 0", house.seers(artefact, 0), 20);
        Check.same("24: ring 1", house.seers(artefact, 1), 60);
        Check.same("24: ring 2", house.seers(artefact, 2), 120);
        int next = Given.easy(house, 0);
        house.release(next, Given.program(house, Given.share(0, 30), Given.await(9)));
        house.pass(1);
        Check.same("24: the candidate", house.seers(next, 0), 6);
        Check.same("24: the stable one", house.seers(artefact, 0), 14);
        Check.same("24: not in the other ring", house.seers(next, 1), 0);
        house.begin(0, 0);
        house.begin(0, 10);
        house.stop(1);
        Check.same("24: one by a session", house.seers(next, 0), 1);
        Check.same("24: the rest", house.seers(artefact, 0), 19);
        Check.noSuch("24: no such artefact", () -> house.seers(2, 3));
        Check.noSuch("24: below 0", () -> house.seers(-1, 0));
        Check.badArgument("24: no such ring", () -> house.seers(0, 3));
        Check.badArgument("24: ring below 0", () -> house.seers(0, -1));
    }

    private static void begin() {
        ReleaseHouse house = new ReleaseHouse();
        int promoting = Given.program(house, Given.promote(0));
        Check.badState("25: sees nothing", () -> house.begin(0, 0));
        int artefact = Given.stable(house, 0, promoting);
        Check.same("25: the artefact", house.begin(0, 0), artefact);
        Check.badState("25: has one", () -> house.begin(0, 0));
        int next = Given.stable(house, 0, promoting);
        Check.same("25: goes on", house.sees(0, 0), artefact);
        Check.same("25: another one sees the next", house.begin(0, 10), next);
        int other = Given.stable(house, 1, promoting);
        Check.same("25: a session for each service", house.begin(1, 0), other);
        Check.badState("25: another ring sees nothing", () -> house.begin(0, 1));
    }

    private static void fortySessions() {
        ReleaseHouse house = new ReleaseHouse();
        int program = Given.program(house, Given.promote(2));
        int artefact = Given.stable(house, 0, program);
        Given.stable(house, 1, program);
        for (int i = 0; i < 20; i++) {
            house.begin(0, 10 * i + 4);
            house.begin(1, 10 * i + 9);
        }
        Check.badState("25: there are 40", () -> house.begin(0, 5));
        house.end(1, 199);
        Check.same("25: there are 39", house.begin(0, 5), artefact);
        Check.badState("25: there are 40 again", () -> house.begin(0, 6));
    }

    private static void lastOnes() {
        ReleaseHouse house = new ReleaseHouse();
        int artefact = Given.stable(house, 3, Given.program(house, Given.promote(2)));
        Check.same("23: the last service and customer", house.sees(3, 199), artefact);
        Check.same("25: the last service and customer", house.begin(3, 199), artefact);
        Check.same("26: the last service and customer", house.end(3, 199), artefact);
    }

    private static void end() {
        ReleaseHouse house = new ReleaseHouse();
        int promoting = Given.program(house, Given.promote(0));
        int artefact = Given.stable(house, 0, promoting);
        Check.badState("26: no session", () -> house.end(0, 0));
        house.begin(0, 0);
        int next = Given.stable(house, 0, promoting);
        Check.badState("26: not of that service", () -> house.end(1, 0));
        Check.badState("26: not of that customer", () -> house.end(0, 10));
        Check.same("26: what it began with", house.end(0, 0), artefact);
        Check.same("26: sees what is there now", house.sees(0, 0), next);
        Check.badState("26: it has ended", () -> house.end(0, 0));
        Check.same("26: begins anew", house.begin(0, 0), next);
    }

    private static void wayOut() {
        ReleaseHouse house = new ReleaseHouse();
        int promoting = Given.program(house, Given.promote(0), Given.await(50));
        int old = Given.withData(house, 0, 1, 0);
        Check.same("27: no stable one", house.wayOut(0, 0), Given.NONE);
        house.release(Given.withData(house, 0, 1, 0), promoting);
        house.pass(1);
        Check.same("27: none is newer", house.wayOut(0, 0), Given.NONE);
        Check.same("27: an older one might", house.mayGo(old), 0);
        Given.withData(house, 0, 2, 1);
        Given.easy(house, 1);
        Check.same("27: none that may go", house.wayOut(0, 0), Given.NONE);
        int way = Given.easy(house, 0);
        int other = Given.easy(house, 0);
        Check.same("27: the oldest one", house.wayOut(0, 0), way);
        Check.same("27: no stable one in the ring", house.wayOut(0, 1), Given.NONE);
        house.release(way, promoting);
        house.pass(1);
        Check.same("27: from there on", house.wayOut(0, 0), other);
        house.expand(0, 3);
        int live = Given.withData(house, 0, 255, 3);
        house.stop(1);
        Check.same("27: back again", house.stable(0, 0), 1);
        house.release(way, Given.program(house, Given.share(1, 10), Given.await(50)));
        house.pass(1);
        Check.same("27: one that is live", house.wayOut(0, 0), way);
        Check.same("27: one that is not read may not", house.mayGo(live), 6);
    }
}
