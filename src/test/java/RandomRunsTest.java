import java.util.Arrays;
import java.util.Random;

/** What holds between the answers of all calls, in runs of calls by chance (of fixed seeds). */
public final class RandomRunsTest {
    private static final int RUNS = 150;
    private static final int CALLS = 300;

    private final Random chance;
    private final ReleaseHouse house = new ReleaseHouse();
    private final int[][] sessions = new int[4][200];
    private int artefacts;
    private int programs;
    private int releases;
    private int minute;

    private RandomRunsTest(int seed) {
        chance = new Random(seed);
        for (int[] ofService : sessions) {
            Arrays.fill(ofService, ReleaseHouse.NONE);
        }
    }

    public static void main(String[] args) {
        for (int seed = 0; seed < RUNS; seed++) {
            new RandomRunsTest(seed).run();
        }
        Check.finish();
    }

    private void run() {
        for (int i = 0; i < 4; i++) {
            makeProgram();
            house.expand(i, 1);
        }
        for (int i = 0; i < CALLS; i++) {
            int[] ahead = answers();
            boolean hasThrown = isThrown(this::callByChance);
            int[] behind = answers();
            if (hasThrown) {
                Check.yes("a call that throws changes nothing", Arrays.equals(ahead, behind));
            }
            lookAtProof();
            lookAtRings();
            lookAtReleases();
        }
    }

    /** Whether it throws; a class below one of the three would be one that the machine throws. */
    private static boolean isThrown(Check.Call call) {
        try {
            call.run();
            return false;
        } catch (RuntimeException thrown) {
            Class<?> got = thrown.getClass();
            Check.yes("one of the three: " + got, got == IndexOutOfBoundsException.class
                    || got == IllegalArgumentException.class || got == IllegalStateException.class);
            Check.yes("thrown by the class itself: " + got, Check.isByTheHouse(thrown));
            return true;
        }
    }

    private void makeProgram() {
        int program = house.program();
        programs++;
        int steps = 1 + chance.nextInt(6);
        for (int i = 0; i < steps; i++) {
            house.step(program, new int[] {0, 0, 0, 1, 2, 3, 4, 4, 5, 6}[chance.nextInt(10)],
                    chance.nextInt(3), 1 + chance.nextInt(100));
        }
    }

    private void callByChance() {
        int kind = chance.nextInt(20);
        if (kind < 3) {
            callOfArtefacts();
        } else if (kind < 8) {
            callOfReleases();
        } else if (kind < 13) {
            int minutes = chance.nextInt(20) == 0 ? chance.nextInt(210) - 5 : 1 + chance.nextInt(3);
            house.pass(minutes);
            minute += minutes;
        } else if (kind < 15) {
            callOfCustomers();
        } else if (kind < 17) {
            callOfData();
        } else {
            callOfTheRest();
        }
    }

    private int up(int bound) {
        return chance.nextInt(50) == 0 ? (chance.nextBoolean() ? -1 : bound) : chance.nextInt(Math.max(1, bound));
    }

    private void callOfArtefacts() {
        boolean isNeedy = chance.nextInt(4) == 0;
        int service = up(4);
        int of = isNeedy ? (service + 1 + chance.nextInt(3)) % 4 : ReleaseHouse.NONE;
        int writes = chance.nextInt(2);
        house.artefact(service, up(6), chance.nextInt(4), isNeedy ? 1 + chance.nextInt(3) : 0, of,
                1 << writes | chance.nextInt(256), writes, chance.nextInt(3) == 0, chance.nextBoolean());
        artefacts++;
    }

    private void callOfReleases() {
        switch (chance.nextInt(9)) {
            case 0:
                house.approve(up(releases), up(6));
                break;
            case 1:
                house.stop(up(releases));
                break;
            case 2:
                house.except(up(releases), up(6));
                break;
            case 3:
                house.board(up(6), up(releases));
                break;
            default:
                house.release(up(artefacts), up(programs));
                releases++;
                break;
        }
    }

    private void callOfCustomers() {
        int service = up(4);
        int customer = up(200);
        if (chance.nextInt(3) > 0) {
            int seen = house.begin(service, customer);
            sessions[service][customer] = seen;
            return;
        }
        int ended = house.end(service, customer);
        Check.same("26: what it began with", ended, sessions[service][customer]);
        sessions[service][customer] = ReleaseHouse.NONE;
    }

    private void callOfData() {
        int service = up(4);
        switch (chance.nextInt(5)) {
            case 0:
                house.expand(service, up(3));
                break;
            case 1:
                house.migrate(service, up(3), up(3));
                break;
            case 2:
                house.halt(service);
                break;
            case 3:
                house.contract(service, up(3));
                break;
            default:
                house.freeze(up(3), Math.max(0, minute - 2), minute + chance.nextInt(5), up(4));
                break;
        }
    }

    private void callOfTheRest() {
        switch (chance.nextInt(8)) {
            case 0:
                house.die(chance.nextBoolean());
                break;
            case 1:
            case 2:
                house.rise();
                break;
            case 3:
                house.hold(up(4));
                break;
            case 4:
                house.zone(up(3), up(3));
                break;
            case 5:
                house.surge(up(3), up(9));
                break;
            case 6:
                house.train(minute + chance.nextInt(4));
                break;
            default:
                int service = up(4);
                int ring = up(3);
                for (int i = chance.nextInt(20); i > 0; i--) {
                    house.measure(service, ring, chance.nextBoolean(), chance.nextInt(4) == 0, chance.nextInt(60001));
                }
                break;
        }
    }

    /** All that may be asked for without changing it. */
    private int[] answers() {
        int[] all = new int[12 * 6 + 4 * 8 + 20 * 3 + 30 + 3 + 6 + 4];
        int n = 0;
        for (int cell = 0; cell < 12; cell++) {
            int service = cell / 3;
            int ring = cell % 3;
            all[n++] = house.stable(service, ring);
            all[n++] = house.candidate(service, ring);
            all[n++] = house.share(service, ring);
            all[n++] = house.wayOut(service, ring);
            all[n++] = house.verdict(service, ring);
            all[n++] = Double.hashCode(house.capital(service, ring));
        }
        for (int schema = 0; schema < 32; schema++) {
            all[n++] = house.units(schema / 8, schema % 8);
        }
        for (int release = 0; release < releases; release++) {
            all[n++] = house.state(release);
            all[n++] = house.at(release);
            all[n++] = house.why(release);
        }
        for (int artefact = 0; artefact < artefacts; artefact++) {
            all[n++] = house.mayGo(artefact);
        }
        for (int ring = 0; ring < 3; ring++) {
            all[n++] = house.left(ring);
        }
        all[n++] = house.isDead() ? 1 : 0;
        all[n++] = house.effects();
        return all;
    }

    private void lookAtProof() {
        Check.same("6: no pair is forbidden", house.forbidden(), 0);
        for (int artefact = 0; artefact < artefacts; artefact++) {
            boolean due = false;
            for (int cell = 0; cell < 12; cell++) {
                due |= house.stable(cell / 3, cell % 3) == artefact || house.candidate(cell / 3, cell % 3) == artefact;
            }
            for (int[] ofService : sessions) {
                for (int seen : ofService) {
                    due |= seen == artefact;
                }
            }
            Check.yes("4: live by what is seen", house.isLive(artefact) == due);
            Check.yes("5: live or not", !due || house.mayGo(artefact) == 0);
        }
    }

    private void lookAtRings() {
        for (int cell = 0; cell < 12; cell++) {
            int service = cell / 3;
            int ring = cell % 3;
            int candidate = house.candidate(service, ring);
            int share = house.share(service, ring);
            Check.yes("22: a share if there is a candidate", share > 0 == candidate >= 0);
            Check.same("36: by all", house.verdictByAll(service, ring), house.verdict(service, ring));
            Check.yes("20: never both", candidate < 0 || candidate != house.stable(service, ring));
            int customer = chance.nextInt(200);
            int seen = sessions[service][customer];
            Check.yes("23: goes on with its session", seen < 0 || house.sees(service, customer) == seen);
        }
    }

    private void lookAtReleases() {
        for (int release = 0; release < releases; release++) {
            int state = house.state(release);
            int why = house.why(release);
            Check.yes("14: ended", state >= 2 == (why == 14));
            Check.yes("14: dead", why == 14 || house.isDead() == (why == 13));
            Check.yes("14: overtaken", why >= 13 || state == 1 == (why == 1));
        }
    }
}
