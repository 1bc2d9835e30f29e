/** What most tests begin with: artefacts that get on with all, programs of given steps, releases. */
final class Given {
    static final int NONE = ReleaseHouse.NONE;

    private Given() {
    }

    /** Of code and no hotfix, by the author 0; keeps and reads all, needs nothing, writes the schema 0. */
    static int easy(ReleaseHouse house, int service) {
        return house.artefact(service, 0, 255, 0, NONE, 255, 0, false, true);
    }

    static int hotfix(ReleaseHouse house, int service) {
        return house.artefact(service, 0, 255, 0, NONE, 255, 0, true, true);
    }

    static int withData(ReleaseHouse house, int service, int reads, int writes) {
        return house.artefact(service, 0, 255, 0, NONE, reads, writes, false, true);
    }

    static int program(ReleaseHouse house, int[]... steps) {
        int program = house.program();
        for (int[] step : steps) {
            house.step(program, step[0], step[1], step[2]);
        }
        return program;
    }

    static int[] share(int ring, int share) {
        return new int[] {0, ring, share};
    }

    static int[] await(int minutes) {
        return new int[] {1, minutes, 0};
    }

    static int[] judge(int ring) {
        return new int[] {2, ring, 0};
    }

    static int[] approvals(int people) {
        return new int[] {3, people, 0};
    }

    static int[] promote(int ring) {
        return new int[] {4, ring, 0};
    }

    static int[] byTrain() {
        return new int[] {5, 0, 0};
    }

    static int[] drain(int ring) {
        return new int[] {6, ring, 0};
    }

    /** Makes an easy artefact of a service the stable one in a ring, by a program of a PROMOTE there. */
    static int stable(ReleaseHouse house, int service, int promoting) {
        int artefact = easy(house, service);
        house.release(artefact, promoting);
        house.pass(1);
        return artefact;
    }

    /** An easy artefact of a service and its release by the steps given, at the first of them. */
    static int released(ReleaseHouse house, int service, int[]... steps) {
        return house.release(easy(house, service), program(house, steps));
    }

    static ReleaseHouse atMinute(int minute) {
        ReleaseHouse house = new ReleaseHouse();
        goOn(house, minute);
        return house;
    }

    /** More minutes may go by so than by one call. */
    static void goOn(ReleaseHouse house, int minutes) {
        for (int left = minutes; left > 0; left -= Math.min(left, 200)) {
            house.pass(Math.min(left, 200));
        }
    }

    static void measures(ReleaseHouse house, int count, boolean isCandidate, boolean isBad, int millis) {
        for (int i = 0; i < count; i++) {
            house.measure(0, 0, isCandidate, isBad, millis);
        }
    }
}
