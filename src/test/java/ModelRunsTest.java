import java.lang.reflect.InvocationTargetException;
import java.lang.reflect.Method;
import java.lang.reflect.Modifier;
import java.util.Arrays;
import java.util.HashMap;
import java.util.List;
import java.util.Map;
import java.util.Random;

/**
 * Runs of calls by chance (of fixed seeds), each made of the class and of the model: both must answer
 * alike, or throw alike. What a call by chance is about is taken from what there is, but for a few.
 */
public final class ModelRunsTest {
    private static final int RUNS = 3000;
    private static final int CALLS = 512;
    private static final Map<String, Method> OF_HOUSE = new HashMap<>();
    private static final Map<String, Method> OF_MODEL = new HashMap<>();
    private static final String[] READS = {"forbidden", "isDead", "effects", "stale"};
    private static final String[] READS_OF_SPOTS = {
        "stable", "candidate", "share", "wayOut", "capital", "verdict", "verdictByAll",
    };

    private final int seed;
    private final Random chance;
    private final ReleaseHouse house = new ReleaseHouse();
    private final Model model = new Model();
    private int calls;
    private boolean areAlike = true;

    /** How this run differs from others: what is rare in one is common in another. */
    private final int mostService;
    private final int mostRing;
    private final int easyInTen;
    private final int hotInTen;
    private final int badInTen;
    private final int[] weights = {10, 14, 14, 5, 4, 8, 4, 3, 16};

    private ModelRunsTest(int seed) {
        this.seed = seed;
        chance = new Random(seed);
        mostService = chance.nextInt(4);
        mostRing = chance.nextInt(3);
        easyInTen = 3 + chance.nextInt(8);
        hotInTen = 1 + chance.nextInt(5);
        badInTen = chance.nextInt(8);
        weights[chance.nextInt(weights.length)] *= 3;
    }

    public static void main(String[] args) throws ReflectiveOperationException {
        for (Method method : ReleaseHouse.class.getDeclaredMethods()) {
            if (Modifier.isPublic(method.getModifiers())) {
                String name = method.getName();
                OF_HOUSE.put(name, method);
                OF_MODEL.put(name, Model.class.getDeclaredMethod(name, method.getParameterTypes()));
            }
        }
        for (int seed = 0; seed < RUNS; seed++) {
            ModelRunsTest run = new ModelRunsTest(seed);
            run.makePrograms();
            while (run.calls < CALLS && run.areAlike) {
                run.callByChance();
            }
        }
        Check.finish();
    }

    // ---- a call of both

    private void call(String name, Object... arguments) {
        Object[] given = arguments.clone();
        if (given.length > 0 && oneIn(80)) {
            int i = up(given.length);
            if (given[i] instanceof Integer) {
                given[i] = of(Integer.MIN_VALUE, Integer.MAX_VALUE, -1, 0, (Integer) given[i] + 1);
            }
        }
        calls++;
        if (areAlike && calls <= CALLS) {
            String got = answer(OF_HOUSE.get(name), house, given);
            String due = answer(OF_MODEL.get(name), model, given);
            areAlike = got.equals(due);
            Check.same("run " + seed + ", call " + calls + ", " + name + Arrays.toString(given), got, due);
        }
    }

    private static String answer(Method method, Object of, Object[] arguments) {
        try {
            return String.valueOf(method.invoke(of, arguments));
        } catch (InvocationTargetException thrown) {
            Throwable cause = thrown.getCause();
            boolean isOfLibrary = of instanceof ReleaseHouse
                    && !(cause instanceof RuntimeException && Check.isByTheHouse((RuntimeException) cause));
            return isOfLibrary ? "not by the class itself: " + cause : cause.getClass().getSimpleName();
        } catch (IllegalAccessException thrown) {
            return thrown.toString();
        }
    }

    // ---- chance

    private boolean oneIn(int count) {
        return chance.nextInt(count) == 0;
    }

    private boolean inTen(int count) {
        return chance.nextInt(10) < count;
    }

    private int up(int bound) {
        return chance.nextInt(Math.max(1, bound));
    }

    /** A number of one of some things, but for a few. */
    private int of(List<?> things) {
        return oneIn(60) ? up(2) * (things.size() + 1) - 1 : up(things.size());
    }

    private int of(int... numbers) {
        return numbers[up(numbers.length)];
    }

    private int service() {
        return oneIn(20) ? up(4) : up(mostService + 1);
    }

    private int ring() {
        return oneIn(20) ? up(3) : up(mostRing + 1);
    }

    /** The number of a release, mostly of one that has not ended. */
    private int release() {
        for (int i = 0; i < 8; i++) {
            int release = up(model.releases.size());
            if (release < model.releases.size() && !model.releases.get(release).hasEnded()) {
                return release;
            }
        }
        return of(model.releases);
    }

    // ---- the calls of a run

    private void makePrograms() {
        for (int program = 0; program < 5; program++) {
            call("program");
            int ring = ring();
            for (int i = up(5); i >= 0; i--) {
                makeStep(program, oneIn(3) ? ring() : ring);
            }
        }
        for (int service = 0; service < 4; service++) {
            call("expand", service, 1);
        }
    }

    private void makeStep(int program, int ring) {
        int kind = of(0, 0, 0, 1, 2, 3, 4, 4, 4, 5, 6);
        int ofStep = kind == 1 ? up(5) : kind == 3 ? up(3) : kind == 5 ? up(20) - 9 : ring;
        call("step", program, kind, ofStep, kind == 0 ? of(1, 50, 51, 100, 1 + up(100)) : up(300) - 99);
    }

    private void callByChance() {
        int drawn = up(Arrays.stream(weights).sum());
        int group = 0;
        while (drawn >= weights[group]) {
            drawn -= weights[group];
            group++;
        }
        switch (group) {
            case 0 -> makeArtefactOrRelease();
            case 1 -> letTimeGoBy();
            case 2 -> callOfReleases();
            case 3 -> callOfSessions();
            case 4 -> callOfData();
            case 5 -> measure();
            case 6 -> callOfHolds();
            case 7 -> callOfFlags();
            default -> read();
        }
    }

    private void makeArtefactOrRelease() {
        if (oneIn(12)) {
            call("program");
        } else if (oneIn(6)) {
            makeStep(of(model.programs), ring());
        } else if (oneIn(2)) {
            int newest = model.artefacts.size() - 1 - up(4);
            call("release", Math.max(0, newest), of(model.programs));
        } else {
            makeArtefact();
        }
    }

    private void makeArtefact() {
        boolean isEasy = inTen(easyInTen);
        int service = service();
        int needs = isEasy ? 0 : up(3);
        int keeps = isEasy ? 255 : up(4);
        int of = needs == 0 ? -1 : (service + 1 + up(3)) % 4;
        int writes = up(isEasy ? 2 : 4);
        int reads = isEasy ? 255 : 1 << writes | up(16);
        call("artefact", service, up(6), keeps, needs, of, reads, oneIn(40) ? up(8) : writes,
                inTen(hotInTen), chance.nextBoolean());
    }

    private void letTimeGoBy() {
        if (model.isDead() && oneIn(2)) {
            call("rise");
        } else {
            call("pass", oneIn(40) ? of(0, 199, 200, 201) : 1 + up(4));
        }
    }

    private void callOfReleases() {
        switch (up(16)) {
            case 0, 1, 2 -> call("approve", release(), up(6));
            case 3 -> call("stop", release());
            case 4 -> call("die", chance.nextBoolean());
            case 5 -> call("rise");
            case 6 -> call("except", release(), up(6));
            case 7 -> call("train", model.minute + up(9));
            case 8, 9 -> call("board", of(model.trains), release());
            case 10 -> call("at", of(model.releases));
            case 11 -> call("state", of(model.releases));
            default -> call("why", release());
        }
    }

    private void callOfSessions() {
        if (oneIn(3) && !model.sessions.isEmpty()) {
            int session = model.sessions.keySet().stream().skip(up(model.sessions.size())).findFirst().orElse(0);
            call("end", session / 200, session % 200);
        } else {
            call(oneIn(8) ? "end" : "begin", service(), up(200));
        }
    }

    private void callOfData() {
        switch (up(6)) {
            case 0 -> call("expand", service(), up(4));
            case 1, 2 -> call("migrate", service(), up(4), up(4));
            case 3 -> call("contract", service(), up(4));
            case 4 -> call("halt", service());
            default -> call("units", service(), up(4));
        }
    }

    /** Some measures of one test, where there is one. */
    private void measure() {
        int service = service();
        int ring = ring();
        for (int i = 0; i < 12 && !model.hasCanary(service, ring); i++) {
            service = up(4);
            ring = up(3);
        }
        int count = model.hasCanary(service, ring) ? up(24) : 0;
        for (int i = 0; i <= count; i++) {
            boolean isCandidate = chance.nextBoolean();
            boolean isBad = isCandidate ? inTen(badInTen) : oneIn(9);
            int millis = oneIn(4) ? up(60001) : of(0, 1, 2, 3, 4, 7, 8, 15, 16);
            call("measure", service, ring, isCandidate, isBad, isCandidate ? millis : millis / 4);
        }
    }

    private void callOfHolds() {
        int ring = ring();
        switch (up(5)) {
            case 0 -> call("hold", service());
            case 1 -> call("freeze", ring, model.minute + up(5) - 2, model.minute + up(9), 1 + up(3));
            case 2 -> call("zone", ring, up(3));
            case 3 -> call("surge", ring, up(9));
            default -> call("left", ring);
        }
    }

    private void callOfFlags() {
        int flag = up(8);
        switch (up(10)) {
            case 0 -> call("flag", flag, up(101), oneIn(2) ? -1 : up(8));
            case 1 -> call("target", flag, up(3), chance.nextBoolean(), up(7), of(0, 1, 2 + up(99)));
            case 2 -> call("kill", flag);
            case 3 -> call("setPlan", up(200), up(7));
            case 4, 5 -> call("isOn", flag, up(200));
            case 6, 7 -> call("arm", of(model.experiments), up(200));
            case 8 -> call("experiment", up(3), flag, up(50), 40 + up(60), 2 + up(3));
            default -> call("conclude", of(model.experiments));
        }
    }

    private void read() {
        switch (up(9)) {
            case 0 -> call(READS[up(READS.length)]);
            case 1 -> call("sees", service(), up(200));
            case 2 -> call("seers", of(model.artefacts), up(3));
            case 3 -> call("isLive", of(model.artefacts));
            case 4 -> call("mayGo", of(model.artefacts));
            case 5 -> call("forbids", of(model.artefacts), of(model.artefacts));
            case 6 -> call("badPart", service(), ring(), chance.nextBoolean());
            case 7 -> call("taken", of(model.trains));
            default -> call(READS_OF_SPOTS[up(READS_OF_SPOTS.length)], service(), ring());
        }
    }
}
