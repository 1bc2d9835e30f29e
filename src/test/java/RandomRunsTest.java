import java.util.ArrayList;
import java.util.Arrays;
import java.util.List;
import java.util.Random;

/**
 * What holds between the answers of all calls, in runs of calls by chance (of fixed seeds). An object is
 * used for at most 512 calls: so a run is made once, and what it has come to is looked at on other
 * objects, for which the first calls of it are made again.
 */
public final class RandomRunsTest {
    private static final int RUNS = 200;
    private static final int CALLS = 260;
    private static final int LOOKS = 25;

    private interface Call {
        int on(ReleaseHouse house);
    }

    /** A call, what it has answered, and what there is behind it. */
    private static final class Step {
        Call call;
        boolean isRefused;
        int answer;
        int artefacts;
        int releases;
        int[] sessions;
    }

    private final Random chance;
    private final ReleaseHouse house = new ReleaseHouse();
    private final List<Step> steps = new ArrayList<>();
    /** By customers of the services: the artefact of the session. */
    private final int[] sessions = new int[800];
    private int artefacts;
    private int programs;
    private int releases;
    private int minute;

    private RandomRunsTest(int seed) {
        chance = new Random(seed);
        Arrays.fill(sessions, ReleaseHouse.NONE);
    }

    public static void main(String[] args) {
        for (int seed = 0; seed < RUNS; seed++) {
            RandomRunsTest run = new RandomRunsTest(seed);
            run.make();
            run.look();
        }
        Check.finish();
    }

    private void make() {
        for (int i = 0; i < 4; i++) {
            makeProgram();
            int service = i;
            does(h -> {
                h.expand(service, 1);
                return 0;
            });
        }
        while (steps.size() < CALLS) {
            callByChance();
        }
    }

    /** Makes a call of the run. */
    private Step does(Call call) {
        Step step = new Step();
        step.call = call;
        step.isRefused = isRefused(step, house);
        steps.add(step);
        noteWhatThereIs(step);
        return step;
    }

    private void noteWhatThereIs(Step step) {
        step.artefacts = artefacts;
        step.releases = releases;
        step.sessions = sessions.clone();
    }

    /** Makes the call of a step, which keeps the answer. */
    private static boolean isRefused(Step step, ReleaseHouse house) {
        try {
            step.answer = step.call.on(house);
            return false;
        } catch (RuntimeException thrown) {
            Class<?> got = thrown.getClass();
            Check.yes("one of the three: " + got, got == IndexOutOfBoundsException.class
                    || got == IllegalArgumentException.class || got == IllegalStateException.class);
            Check.yes("thrown by the class itself: " + got, Check.isByTheHouse(thrown));
            return true;
        }
    }

    // ---- the calls of a run

    private void makeProgram() {
        int program = programs;
        does(ReleaseHouse::program);
        programs++;
        int count = 1 + chance.nextInt(6);
        for (int i = 0; i < count; i++) {
            int kind = new int[] {0, 0, 0, 1, 2, 3, 4, 4, 5, 6}[chance.nextInt(10)];
            int of = chance.nextInt(3);
            int with = 1 + chance.nextInt(100);
            does(h -> h.step(program, kind, of, with));
        }
    }

    private void callByChance() {
        int kind = chance.nextInt(20);
        if (kind < 3) {
            makeArtefact();
        } else if (kind < 8) {
            callOfReleases();
        } else if (kind < 13) {
            int minutes = chance.nextInt(20) == 0 ? chance.nextInt(210) - 5 : 1 + chance.nextInt(3);
            minute += does(h -> h.pass(minutes)).isRefused ? 0 : minutes;
        } else if (kind < 15) {
            beginOrEnd();
        } else if (kind < 17) {
            callOfData();
        } else {
            callOfTheRest();
        }
    }

    /** A number from 0 on, below the bound but for a few. */
    private int up(int bound) {
        return chance.nextInt(50) == 0 ? (chance.nextBoolean() ? -1 : bound) : chance.nextInt(Math.max(1, bound));
    }

    private void makeArtefact() {
        boolean isNeedy = chance.nextInt(4) == 0;
        int service = up(4);
        int author = up(6);
        int keeps = chance.nextInt(4);
        int needs = isNeedy ? 1 + chance.nextInt(3) : 0;
        int of = isNeedy ? (service + 1 + chance.nextInt(3)) % 4 : ReleaseHouse.NONE;
        int writes = chance.nextInt(2);
        int reads = 1 << writes | chance.nextInt(256);
        boolean isHotfix = chance.nextInt(3) == 0;
        boolean isCode = chance.nextBoolean();
        Step step = does(h -> h.artefact(service, author, keeps, needs, of, reads, writes, isHotfix, isCode));
        artefacts += step.isRefused ? 0 : 1;
        noteWhatThereIs(step);
    }

    private void beginOrEnd() {
        int service = up(4);
        int customer = up(200);
        boolean isBegin = chance.nextInt(3) > 0;
        Step step = does(h -> isBegin ? h.begin(service, customer) : h.end(service, customer));
        if (!step.isRefused) {
            int session = service * 200 + customer;
            Check.yes("26: what it began with", isBegin || step.answer == sessions[session]);
            sessions[session] = isBegin ? step.answer : ReleaseHouse.NONE;
            noteWhatThereIs(step);
        }
    }

    private void callOfReleases() {
        int kind = chance.nextInt(9);
        int release = up(releases);
        int person = up(6);
        int train = up(6);
        int artefact = up(artefacts);
        int program = up(programs);
        if (kind == 0) {
            does(h -> h.approve(release, person));
        } else if (kind == 1) {
            does(h -> h.stop(release));
        } else if (kind == 2) {
            does(h -> h.except(release, person));
        } else if (kind == 3) {
            does(h -> h.board(train, release));
        } else {
            Step step = does(h -> h.release(artefact, program));
            releases += step.isRefused ? 0 : 1;
            noteWhatThereIs(step);
        }
    }

    private void callOfData() {
        int kind = chance.nextInt(5);
        int service = up(4);
        int schema = up(3);
        int other = up(3);
        int ring = up(3);
        int to = minute + chance.nextInt(5);
        int from = Math.max(0, minute - 2);
        does(h -> {
            switch (kind) {
                case 0:
                    h.expand(service, schema);
                    return 0;
                case 1:
                    h.migrate(service, schema, other);
                    return 0;
                case 2:
                    return h.halt(service);
                case 3:
                    h.contract(service, schema);
                    return 0;
                default:
                    return h.freeze(ring, from, to, 1 + schema);
            }
        });
    }

    private void callOfTheRest() {
        int kind = chance.nextInt(8);
        if (kind == 7) {
            measure();
            return;
        }
        int service = up(4);
        int ring = up(3);
        int number = up(9);
        boolean isSo = chance.nextBoolean();
        int later = minute + chance.nextInt(4);
        does(h -> {
            switch (kind) {
                case 0:
                    h.die(isSo);
                    return 0;
                case 1:
                case 2:
                    return h.rise();
                case 3:
                    return h.hold(service) ? 1 : 0;
                case 4:
                    return h.zone(ring, number) ? 1 : 0;
                case 5:
                    return h.surge(ring, number);
                default:
                    return h.train(later);
            }
        });
    }

    private void measure() {
        int service = up(4);
        int ring = up(3);
        for (int i = chance.nextInt(20); i > 0; i--) {
            boolean isCandidate = chance.nextBoolean();
            boolean isBad = chance.nextInt(4) == 0;
            int millis = chance.nextInt(60001);
            does(h -> h.measure(service, ring, isCandidate, isBad, millis));
        }
    }

    // ---- looking at what a run has come to

    private void look() {
        for (int i = 0; i < LOOKS; i++) {
            int count = 1 + chance.nextInt(steps.size());
            lookAtRefused(count);
            Step last = steps.get(count - 1);
            lookAtProof(again(count), last);
            lookAtReleases(again(count), last);
        }
    }

    /** Another object for which the first calls of the run have been made. */
    private ReleaseHouse again(int count) {
        ReleaseHouse other = new ReleaseHouse();
        for (int i = 0; i < count; i++) {
            Step step = steps.get(i);
            int answer = step.answer;
            boolean isRefused = isRefused(step, other);
            Check.yes("the same calls give the same answers", isRefused == step.isRefused && answer == step.answer);
        }
        return other;
    }

    private void lookAtRefused(int from) {
        for (int i = from; i < steps.size(); i++) {
            if (steps.get(i).isRefused) {
                String behind = Probe.of(again(i + 1));
                Check.same("a call that throws changes nothing", behind, Probe.of(again(i)));
                return;
            }
        }
    }

    private void lookAtProof(ReleaseHouse other, Step last) {
        Check.same("6: no pair is forbidden", other.forbidden(), 0);
        boolean[] isDue = new boolean[last.artefacts + 1];
        for (int cell = 0; cell < 12; cell++) {
            int stable = other.stable(cell / 3, cell % 3);
            int candidate = other.candidate(cell / 3, cell % 3);
            int share = other.share(cell / 3, cell % 3);
            isDue[stable + 1] = true;
            isDue[candidate + 1] = true;
            Check.yes("22: a share if there is a candidate", share > 0 == candidate >= 0);
            Check.yes("20: never both", candidate < 0 || candidate != stable);
            Check.same("36: by all", other.verdictByAll(cell / 3, cell % 3), other.verdict(cell / 3, cell % 3));
        }
        for (int session = 0; session < 800; session++) {
            int seen = last.sessions[session];
            isDue[seen + 1] = true;
            if (seen != ReleaseHouse.NONE) {
                Check.same("23: goes on with its session", other.sees(session / 200, session % 200), seen);
            }
        }
        for (int artefact = 0; artefact < last.artefacts; artefact++) {
            Check.yes("4: live by what there is", other.isLive(artefact) == isDue[artefact + 1]);
            Check.yes("5: live or not", !isDue[artefact + 1] || other.mayGo(artefact) == 0);
        }
    }

    private void lookAtReleases(ReleaseHouse other, Step last) {
        boolean isDead = other.isDead();
        for (int release = 0; release < last.releases; release++) {
            int state = other.state(release);
            int why = other.why(release);
            Check.yes("14: ended", state >= 2 == (why == 14));
            Check.yes("14: dead", why == 14 || isDead == (why == 13));
            Check.yes("14: overtaken", why >= 13 || state == 1 == (why == 1));
        }
    }
}
