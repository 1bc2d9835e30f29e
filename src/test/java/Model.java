import java.util.ArrayList;
import java.util.Arrays;
import java.util.List;
import java.util.Map;
import java.util.Set;
import java.util.TreeMap;
import java.util.TreeSet;

/**
 * The document once more, to tell which answers are due in runs of calls by chance. It keeps what it was
 * told and what the minutes have made of it; all else, as what is live, it finds anew at each question, so
 * that it shares none of the ways in which the class keeps things.
 */
final class Model {
    private static final int NONE = -1;
    private static final int SHARE = 0;
    private static final int WAIT = 1;
    private static final int JUDGE = 2;
    private static final int APPROVE = 3;
    private static final int PROMOTE = 4;
    private static final int TRAIN = 5;

    record Artefact(int service, int author, int keeps, int needs, int of, int reads, int writes,
            boolean isHotfix, boolean isCode) {
        boolean doesRead(int schema) {
            return (reads >> schema & 1) == 1;
        }
    }

    record Step(int kind, int of, int with) {
    }

    record Freeze(int ring, int from, int to, int level) {
    }

    record Measure(boolean isBad, int millis) {
    }

    record Rule(int attribute, boolean isLeast, int number, int outcome) {
    }

    static final class Release {
        int artefact;
        List<Step> program;
        int at;
        int state;
        int since;
        final Set<Integer> approvals = new TreeSet<>();
        boolean isExcepted;
        int train = NONE;
        boolean isTaken;
        /** By the rings of a PROMOTE with an effect: what was stable ahead of it. */
        final Map<Integer, Integer> ahead = new TreeMap<>();

        boolean hasEnded() {
            return state > 1;
        }

        void comeTo(int step, int minute) {
            at = step;
            since = minute;
            isTaken = false;
        }
    }

    static final class Train {
        int minute;
        int taken = NONE;
    }

    static final class Flag {
        int percentage;
        int needs = NONE;
        boolean isKilled;
        int askedAt;
        final List<Rule> rules = new ArrayList<>();
    }

    static final class Experiment {
        int layer;
        int flag;
        int from;
        int to;
        int arms;
        boolean hasEnded;
    }

    /** Who sees what: by services and rings, each row {stable, candidate, share}. */
    private int[][] spots = new int[12][];
    /** By services and rings: the measures of the candidate, and of the stable artefact. */
    private final List<List<Measure>> ofCandidates = new ArrayList<>();
    private final List<List<Measure>> ofStables = new ArrayList<>();
    /** By 200 times the service, plus the customer. */
    final Map<Integer, Integer> sessions = new TreeMap<>();
    final List<Artefact> artefacts = new ArrayList<>();
    final List<List<Step>> programs = new ArrayList<>();
    final List<Release> releases = new ArrayList<>();
    final List<Train> trains = new ArrayList<>();
    final List<Experiment> experiments = new ArrayList<>();
    private final List<Freeze> freezes = new ArrayList<>();
    private final List<Flag> flags = new ArrayList<>();
    private final int[] plans = new int[200];
    private final int[][] units = new int[4][8];
    private final boolean[][] isOpen = new boolean[4][8];
    /** By services: {from, to, moved}, null if none runs. */
    private final int[][] migrations = new int[4][];
    private final boolean[] isHeld = new boolean[4];
    private final boolean[][] isLost = new boolean[3][3];
    private final int[] surges = new int[3];
    int minute;
    private boolean isGone;
    private boolean isToldToDie;
    private boolean isToldBehind;
    private int effects;
    private int measures;

    Model() {
        for (int i = 0; i < 12; i++) {
            spots[i] = new int[] {NONE, NONE, 0};
            ofCandidates.add(new ArrayList<>());
            ofStables.add(new ArrayList<>());
        }
        for (int i = 0; i < 8; i++) {
            flags.add(new Flag());
        }
        for (boolean[] schemas : isOpen) {
            schemas[0] = true;
        }
    }

    // ---- what is refused

    private static void right(boolean isRight) {
        if (!isRight) {
            throw new IllegalArgumentException();
        }
    }

    private static void in(int value, int least, int most) {
        right(value >= least && value <= most);
    }

    private static void not(boolean isRefused) {
        if (isRefused) {
            throw new IllegalStateException();
        }
    }

    private static <T> T one(List<T> of, int number) {
        if (number < 0 || number >= of.size()) {
            throw new IndexOutOfBoundsException();
        }
        return of.get(number);
    }

    private static int last(List<?> of) {
        return of.size() - 1;
    }

    private static int cell(int service, int ring) {
        in(service, 0, 3);
        in(ring, 0, 2);
        return service * 3 + ring;
    }

    // ---- artefacts and the proof

    int artefact(int service, int author, int keeps, int needs, int of, int reads, int writes,
            boolean isHotfix, boolean isCode) {
        in(service, 0, 3);
        in(author, 0, 5);
        in(keeps, 0, 255);
        in(needs, 0, 255);
        in(of, needs == 0 ? NONE : 0, needs == 0 ? NONE : 3);
        in(reads, 1, 255);
        in(writes, 0, 7);
        Artefact made = new Artefact(service, author, keeps, needs, of, reads, writes, isHotfix, isCode);
        right(of != service && made.doesRead(writes));
        not(artefacts.size() == 30);
        artefacts.add(made);
        return last(artefacts);
    }

    int forbids(int artefact, int other) {
        Artefact a = one(artefacts, artefact);
        Artefact b = one(artefacts, other);
        if (a.service == b.service) {
            return !a.doesRead(b.writes) ? 1 : !b.doesRead(a.writes) ? 2 : 0;
        }
        if (a.of == b.service && (a.needs & ~b.keeps) != 0) {
            return 3;
        }
        return b.of == a.service && (b.needs & ~a.keeps) != 0 ? 4 : 0;
    }

    private Set<Integer> live() {
        Set<Integer> found = new TreeSet<>(sessions.values());
        for (int[] spot : spots) {
            found.add(spot[0]);
            found.add(spot[1]);
        }
        found.remove(NONE);
        return found;
    }

    boolean isLive(int artefact) {
        one(artefacts, artefact);
        return live().contains(artefact);
    }

    private boolean isProven(int artefact) {
        return live().stream().allMatch(other -> forbids(artefact, other) == 0);
    }

    private boolean fitsData(Artefact artefact) {
        int service = artefact.service;
        boolean fits = isOpen[service][artefact.writes];
        for (int schema = 0; schema < 8; schema++) {
            boolean isToRead = units[service][schema] > 0
                    || migrations[service] != null && migrations[service][1] == schema;
            fits &= artefact.doesRead(schema) || !isToRead;
        }
        return fits;
    }

    int mayGo(int artefact) {
        Artefact asked = one(artefacts, artefact);
        if (isLive(artefact)) {
            return 0;
        }
        boolean hasNeeded = live().stream().anyMatch(other -> artefacts.get(other).service == asked.of);
        return !isProven(artefact) ? 6 : fitsData(asked) && (asked.needs == 0 || hasNeeded) ? 0 : 7;
    }

    int forbidden() {
        int pairs = 0;
        for (int one : live()) {
            pairs += (int) live().stream().filter(other -> other > one && forbids(one, other) != 0).count();
        }
        return pairs;
    }

    // ---- programs and releases

    int program() {
        not(programs.size() == 6);
        programs.add(new ArrayList<>());
        return last(programs);
    }

    int step(int program, int kind, int of, int with) {
        List<Step> steps = one(programs, program);
        in(kind, 0, 6);
        if (kind != TRAIN) {
            in(of, 0, kind == WAIT ? 1000 : kind == APPROVE ? 5 : 2);
        }
        if (kind == SHARE) {
            in(with, 1, 100);
        }
        not(steps.size() == 10 || releases.stream().anyMatch(release -> release.program == steps));
        steps.add(new Step(kind, of, with));
        return steps.size();
    }

    int release(int artefact, int program) {
        one(artefacts, artefact);
        List<Step> steps = one(programs, program);
        not(releases.size() == 20 || steps.isEmpty() || underWay(artefact) != null);
        Release begun = new Release();
        begun.artefact = artefact;
        begun.program = steps;
        begun.since = minute;
        releases.add(begun);
        return last(releases);
    }

    private Release underWay(int artefact) {
        return releases.stream().filter(release -> release.artefact == artefact && !release.hasEnded())
                .findAny().orElse(null);
    }

    private Artefact of(Release release) {
        return artefacts.get(release.artefact);
    }

    int approve(int release, int person) {
        Release approved = one(releases, release);
        in(person, 0, 5);
        not(of(approved).author == person || approved.hasEnded() || !approved.approvals.add(person));
        return approved.approvals.size();
    }

    int state(int release) {
        return one(releases, release).state;
    }

    int at(int release) {
        return one(releases, release).at;
    }

    int stop(int release) {
        Release stopped = one(releases, release);
        not(stopped.hasEnded());
        int[][] before = spots.clone();
        int stuck = bringToStop(stopped);
        countEffects(before);
        return stuck;
    }

    private int bringToStop(Release release) {
        loseCandidates(release);
        int stuck = 0;
        for (int ring : release.ahead.keySet()) {
            if (stableOf(release, ring) == release.artefact) {
                stuck += goesBack(release, ring) ? 0 : 1;
            }
        }
        bringToEnd(release, 3);
        return stuck;
    }

    private boolean goesBack(Release release, int ring) {
        int cell = cell(of(release).service, ring);
        int[] now = spots[cell];
        int back = release.ahead.get(ring);
        spots[cell] = new int[] {back, now[1], now[2]};
        boolean goes = back != NONE && isProven(back) && fitsData(artefacts.get(back));
        spots[cell] = now;
        if (goes) {
            put(cell, back, now[1], now[2]);
        }
        return goes;
    }

    private int stableOf(Release release, int ring) {
        return spots[cell(of(release).service, ring)][0];
    }

    private void loseCandidates(Release release) {
        for (int cell = 0; cell < 12; cell++) {
            if (spots[cell][1] == release.artefact) {
                put(cell, spots[cell][0], NONE, 0);
            }
        }
    }

    private void bringToEnd(Release release, int state) {
        release.state = state;
        for (Release other : releases) {
            if (of(release).isHotfix && other.state == 1 && of(other).service == of(release).service) {
                other.state = 0;
                other.comeTo(0, minute);
            }
        }
    }

    private void put(int cell, int stable, int candidate, int share) {
        if (stable != spots[cell][0] || candidate != spots[cell][1]) {
            ofCandidates.get(cell).clear();
            ofStables.get(cell).clear();
        }
        spots[cell] = new int[] {stable, candidate, share};
    }

    private void countEffects(int[][] before) {
        for (int cell = 0; cell < 12; cell++) {
            effects += Arrays.equals(before[cell], spots[cell]) ? 0 : 1;
        }
    }

    int why(int release) {
        Release asked = one(releases, release);
        return asked.hasEnded() ? 14 : isGone ? 13 : asked.state == 1 ? 1 : reason(asked);
    }

    private int reason(Release release) {
        Step step = release.program.get(release.at);
        int service = of(release).service;
        switch (step.kind) {
            case SHARE:
            case PROMOTE:
                return reasonToPut(release, step);
            case WAIT:
                return minute - release.since < step.of ? 8 : 0;
            case JUDGE:
                return candidate(service, step.of) != release.artefact || verdict(service, step.of) == 0 ? 9 : 0;
            case APPROVE:
                return release.approvals.size() < step.of ? 10 : 0;
            case TRAIN:
                return release.isTaken ? 0 : 11;
            default:
                return sessions.entrySet().stream().anyMatch(session -> session.getKey() / 200 == service
                        && ring(session.getKey() % 200) == step.of
                        && session.getValue() != stableOf(release, step.of)) ? 12 : 0;
        }
    }

    private int reasonToPut(Release release, Step step) {
        Artefact artefact = of(release);
        if (stableOf(release, step.of) >= release.artefact) {
            return 0;
        }
        if (isHeld[artefact.service]) {
            return 2;
        }
        if (isFrozen(release, step.of)) {
            return 3;
        }
        Release rival = rival(release, step.of);
        if (rival != null && (!artefact.isHotfix || of(rival).isHotfix)) {
            return 4;
        }
        return hasRoom(release, step) ? mayGo(release.artefact) : 5;
    }

    private boolean isFrozen(Release release, int ring) {
        Artefact artefact = of(release);
        return !release.isExcepted && freezes.stream().anyMatch(freeze -> freeze.ring == ring
                && minute >= freeze.from && minute <= freeze.to
                && (freeze.level == 3 || !artefact.isHotfix && (freeze.level == 2 || artefact.isCode)));
    }

    private Release rival(Release release, int ring) {
        int there = candidate(of(release).service, ring);
        return there == release.artefact ? null : underWay(there);
    }

    /** Does the step on trial, looks at what there is behind it, and takes it back. */
    private boolean hasRoom(Release release, Step step) {
        int[][] before = spots;
        int ahead = placesTaken(step.of);
        spots = before.clone();
        Release rival = rival(release, step.of);
        for (int cell = 0; cell < 12; cell++) {
            if (rival != null && spots[cell][1] == rival.artefact) {
                spots[cell] = new int[] {spots[cell][0], NONE, 0};
            }
        }
        spots[cell(of(release).service, step.of)] = spotBehind(release, step);
        int behind = placesTaken(step.of);
        int ofService = 0;
        for (int cell = of(release).service * 3; cell < of(release).service * 3 + 3; cell++) {
            ofService += places(spots[cell][2]);
        }
        spots = before;
        return (behind <= placesIn(step.of) || behind <= ahead) && (step.kind == PROMOTE || ofService <= 4);
    }

    private int[] spotBehind(Release release, Step step) {
        if (step.kind == PROMOTE) {
            return new int[] {release.artefact, NONE, 0};
        }
        return new int[] {stableOf(release, step.of), release.artefact, step.with};
    }

    private static int places(int share) {
        return share > 50 ? 2 : share > 0 ? 1 : 0;
    }

    private int placesIn(int ring) {
        int found = surges[ring];
        for (boolean isLostZone : isLost[ring]) {
            found += isLostZone ? 0 : 4;
        }
        return found;
    }

    private int placesTaken(int ring) {
        int found = 0;
        for (int cell = ring; cell < 12; cell += 3) {
            found += (spots[cell][0] == NONE ? 0 : 2) + places(spots[cell][2]);
        }
        return found;
    }

    // ---- minutes and the controller

    int pass(int minutes) {
        in(minutes, 1, 200);
        not(minute + minutes > 20000);
        int noted = 0;
        for (int i = 0; i < minutes; i++) {
            minute++;
            growData();
            trains.stream().filter(train -> train.minute == minute).forEach(this::leave);
            noted += takeTurns(true) + takeTurns(false);
        }
        return noted;
    }

    private void growData() {
        for (int cell = 0; cell < 12; cell++) {
            for (int i = 0; i < 2; i++) {
                if (spots[cell][i] != NONE) {
                    units[cell / 3][artefacts.get(spots[cell][i]).writes]++;
                }
            }
        }
        for (int service = 0; service < 4; service++) {
            int[] migration = migrations[service];
            for (int i = 0; migration != null && i < 5 && units[service][migration[0]] > 0; i++) {
                units[service][migration[0]]--;
                units[service][migration[1]]++;
                migration[2]++;
            }
        }
    }

    private void leave(Train train) {
        train.taken = 0;
        for (Release release : releases) {
            if (release.train == trains.indexOf(train)) {
                release.train = NONE;
                if (release.state == 0 && release.program.get(release.at).kind == TRAIN) {
                    release.isTaken = true;
                    train.taken++;
                }
            }
        }
    }

    private int takeTurns(boolean ofHotfixes) {
        int noted = 0;
        for (Release release : releases) {
            if (!isGone && of(release).isHotfix == ofHotfixes && release.state == 0 && reason(release) == 0) {
                noted += takeTurn(release) ? 1 : 0;
            }
        }
        return noted;
    }

    private boolean takeTurn(Release release) {
        isGone = isToldToDie;
        if (isToldToDie && !isToldBehind) {
            return false;
        }
        int[][] before = spots.clone();
        act(release, release.program.get(release.at));
        countEffects(before);
        if (!isToldToDie && !release.hasEnded()) {
            release.comeTo(release.at + 1, minute);
            if (release.at == release.program.size()) {
                bringToEnd(release, 2);
            }
            return true;
        }
        return release.hasEnded();
    }

    private void act(Release release, Step step) {
        if (step.kind == JUDGE && verdict(of(release).service, step.of) == 2) {
            bringToStop(release);
        }
        if (step.kind != SHARE && step.kind != PROMOTE || stableOf(release, step.of) == release.artefact) {
            return;
        }
        if (stableOf(release, step.of) > release.artefact) {
            loseCandidates(release);
            bringToEnd(release, 4);
            return;
        }
        Release rival = rival(release, step.of);
        if (rival != null) {
            rival.state = 1;
            loseCandidates(rival);
        }
        if (step.kind == PROMOTE) {
            release.ahead.put(step.of, stableOf(release, step.of));
        }
        int[] behind = spotBehind(release, step);
        put(cell(of(release).service, step.of), behind[0], behind[1], behind[2]);
    }

    void die(boolean isBehind) {
        not(isGone);
        isToldToDie = true;
        isToldBehind = isBehind;
    }

    int rise() {
        not(!isGone);
        isGone = false;
        isToldToDie = false;
        return (int) releases.stream().filter(release -> release.state == 0).count();
    }

    boolean isDead() {
        return isGone;
    }

    int effects() {
        return effects;
    }

    // ---- rings and customers

    int stable(int service, int ring) {
        return spots[cell(service, ring)][0];
    }

    int candidate(int service, int ring) {
        return spots[cell(service, ring)][1];
    }

    int share(int service, int ring) {
        return spots[cell(service, ring)][2];
    }

    private static int ring(int customer) {
        int last = customer % 10;
        return last == 0 ? 0 : last <= 3 ? 1 : 2;
    }

    int sees(int service, int customer) {
        in(service, 0, 3);
        in(customer, 0, 199);
        int[] spot = spots[cell(service, ring(customer))];
        int place = (37 * customer + 11 * service) % 100;
        return sessions.getOrDefault(service * 200 + customer, place < spot[2] ? spot[1] : spot[0]);
    }

    int seers(int artefact, int ring) {
        int service = one(artefacts, artefact).service;
        in(ring, 0, 2);
        int count = 0;
        for (int customer = 0; customer < 200; customer++) {
            count += ring(customer) == ring && sees(service, customer) == artefact ? 1 : 0;
        }
        return count;
    }

    int begin(int service, int customer) {
        int seen = sees(service, customer);
        not(sessions.containsKey(service * 200 + customer) || seen == NONE || sessions.size() == 40);
        sessions.put(service * 200 + customer, seen);
        return seen;
    }

    int end(int service, int customer) {
        in(service, 0, 3);
        in(customer, 0, 199);
        Integer ended = sessions.remove(service * 200 + customer);
        not(ended == null);
        return ended;
    }

    int wayOut(int service, int ring) {
        int stable = stable(service, ring);
        for (int newer = stable + 1; stable != NONE && newer < artefacts.size(); newer++) {
            if (artefacts.get(newer).service == service && mayGo(newer) == 0) {
                return newer;
            }
        }
        return NONE;
    }

    // ---- data

    private boolean isLiveAndNotReading(int service, int schema) {
        return live().stream().map(artefacts::get).anyMatch(a -> a.service == service && !a.doesRead(schema));
    }

    void expand(int service, int schema) {
        units(service, schema);
        not(isOpen[service][schema]);
        isOpen[service][schema] = true;
    }

    void migrate(int service, int from, int to) {
        units(service, from);
        units(service, to);
        right(from != to);
        not(migrations[service] != null || !isOpen[service][to] || isLiveAndNotReading(service, to));
        migrations[service] = new int[] {from, to, 0};
    }

    int halt(int service) {
        in(service, 0, 3);
        not(migrations[service] == null);
        int moved = migrations[service][2];
        migrations[service] = null;
        return moved;
    }

    void contract(int service, int schema) {
        not(units(service, schema) > 0 || !isOpen[service][schema]
                || migrations[service] != null && migrations[service][1] == schema
                || live().stream().map(artefacts::get).anyMatch(a -> a.service == service && a.writes == schema));
        isOpen[service][schema] = false;
    }

    int units(int service, int schema) {
        in(service, 0, 3);
        in(schema, 0, 7);
        return units[service][schema];
    }

    // ---- canaries

    boolean hasCanary(int service, int ring) {
        return stable(service, ring) != NONE && candidate(service, ring) != NONE;
    }

    private List<Measure> measures(int cell, boolean isCandidate) {
        return (isCandidate ? ofCandidates : ofStables).get(cell);
    }

    int measure(int service, int ring, boolean isCandidate, boolean isBad, int millis) {
        List<Measure> taken = measures(cell(service, ring), isCandidate);
        in(millis, 0, 60000);
        not(!hasCanary(service, ring) || measures == 600);
        measures++;
        taken.add(new Measure(isBad, millis));
        return taken.size();
    }

    private int pairs(int cell) {
        return Math.min(ofCandidates.get(cell).size(), ofStables.get(cell).size());
    }

    double capital(int service, int ring) {
        int cell = cell(service, ring);
        double capital = 1.0;
        for (int pair = 0; pair < pairs(cell) && capital < 20.0; pair++) {
            boolean isBad = ofCandidates.get(cell).get(pair).isBad;
            boolean isOtherBad = ofStables.get(cell).get(pair).isBad;
            capital *= isBad == isOtherBad ? 1.0 : isBad ? 1.5 : 0.5;
        }
        return capital;
    }

    private static int slowBucket(List<Measure> of) {
        int bucket = 0;
        int inside = 0;
        while (inside * 10 < of.size() * 9) {
            int least = bucket == 0 ? 0 : 1 << bucket - 1;
            int most = bucket == 0 ? 0 : (1 << bucket) - 1;
            inside += (int) of.stream().filter(m -> m.millis >= least && m.millis <= most).count();
            bucket++;
        }
        return Math.max(0, bucket - 1);
    }

    int verdict(int service, int ring) {
        int cell = cell(service, ring);
        boolean isSlower = slowBucket(ofCandidates.get(cell)) - slowBucket(ofStables.get(cell)) > 1;
        if (capital(service, ring) >= 20.0 || pairs(cell) >= 10 && isSlower) {
            return 2;
        }
        return pairs(cell) >= 20 ? 1 : 0;
    }

    int verdictByAll(int service, int ring) {
        return verdict(service, ring);
    }

    float badPart(int service, int ring, boolean isCandidate) {
        List<Measure> of = measures(cell(service, ring), isCandidate);
        float bad = of.stream().filter(Measure::isBad).count();
        return of.isEmpty() ? 0 : bad / of.size();
    }

    // ---- holds, freezes, capacity, trains

    boolean hold(int service) {
        in(service, 0, 3);
        return isHeld[service] ^= true;
    }

    int freeze(int ring, int from, int to, int level) {
        in(ring, 0, 2);
        in(from, 0, 20000);
        in(to, from, 20000);
        in(level, 1, 3);
        not(freezes.size() == 8);
        freezes.add(new Freeze(ring, from, to, level));
        return last(freezes);
    }

    int except(int release, int person) {
        Release excepted = one(releases, release);
        in(person, 0, 5);
        not(of(excepted).author == person || excepted.isExcepted || excepted.hasEnded());
        excepted.isExcepted = true;
        return (int) releases.stream().filter(other -> other.isExcepted).count();
    }

    boolean zone(int ring, int zone) {
        in(ring, 0, 2);
        in(zone, 0, 2);
        return isLost[ring][zone] ^= true;
    }

    int surge(int ring, int places) {
        in(ring, 0, 2);
        in(places, 0, 8);
        int before = surges[ring];
        surges[ring] = places;
        return before;
    }

    int left(int ring) {
        in(ring, 0, 2);
        return placesIn(ring) - placesTaken(ring);
    }

    int train(int minute) {
        in(minute, this.minute + 1, 20000);
        not(trains.size() == 6);
        Train made = new Train();
        made.minute = minute;
        trains.add(made);
        return last(trains);
    }

    int board(int train, int release) {
        Train boarded = one(trains, train);
        Release boarding = one(releases, release);
        not(boarded.taken != NONE || boarding.hasEnded() || boarding.train == train);
        boarding.train = train;
        return (int) releases.stream().filter(other -> other.train == train).count();
    }

    int taken(int train) {
        return one(trains, train).taken;
    }

    // ---- flags and experiments

    void flag(int flag, int percentage, int needs) {
        in(flag, 0, 7);
        in(percentage, 0, 100);
        in(needs, NONE, 7);
        for (int needed = needs; needed != NONE; needed = flags.get(needed).needs) {
            not(needed == flag);
        }
        flags.get(flag).percentage = percentage;
        flags.get(flag).needs = needs;
    }

    int target(int flag, int attribute, boolean isLeast, int number, int outcome) {
        in(flag, 0, 7);
        in(attribute, 0, 2);
        in(number, 0, 6);
        in(outcome, 0, 100);
        List<Rule> rules = flags.get(flag).rules;
        not(rules.size() == 4);
        rules.add(new Rule(attribute, isLeast, number, outcome));
        return rules.size();
    }

    boolean kill(int flag) {
        in(flag, 0, 7);
        return flags.get(flag).isKilled ^= true;
    }

    void setPlan(int customer, int plan) {
        in(customer, 0, 199);
        in(plan, 0, 6);
        plans[customer] = plan;
    }

    boolean isOn(int flag, int customer) {
        in(flag, 0, 7);
        in(customer, 0, 199);
        flags.get(flag).askedAt = minute;
        return on(flag, customer);
    }

    private boolean on(int flag, int customer) {
        Flag asked = flags.get(flag);
        if (asked.isKilled || asked.needs != NONE && !on(asked.needs, customer)) {
            return false;
        }
        int[] attributes = {ring(customer), customer % 7, plans[customer]};
        int percentage = asked.rules.stream()
                .filter(rule -> attributes[rule.attribute] == rule.number
                        || rule.isLeast && attributes[rule.attribute] > rule.number)
                .findFirst().map(rule -> rule.outcome == 1 ? 100 : rule.outcome).orElse(asked.percentage);
        return (53 * customer + 29 * flag) % 100 < percentage;
    }

    int stale() {
        int found = 0;
        for (int flag = 0; flag < 8; flag++) {
            found += minute - flags.get(flag).askedAt >= 500 ? 1 << flag : 0;
        }
        return found;
    }

    int experiment(int layer, int flag, int from, int to, int arms) {
        in(layer, 0, 2);
        in(flag, 0, 7);
        in(from, 0, 99);
        in(to, from, 99);
        in(arms, 2, 4);
        not(experiments.size() == 8);
        for (int seat = from; seat <= to; seat++) {
            not(isTakenSeat(layer, seat));
        }
        Experiment made = new Experiment();
        made.layer = layer;
        made.flag = flag;
        made.from = from;
        made.to = to;
        made.arms = arms;
        experiments.add(made);
        return last(experiments);
    }

    private boolean isTakenSeat(int layer, int seat) {
        return experiments.stream().anyMatch(other -> !other.hasEnded && other.layer == layer
                && seat >= other.from && seat <= other.to);
    }

    void conclude(int experiment) {
        Experiment concluded = one(experiments, experiment);
        not(concluded.hasEnded);
        concluded.hasEnded = true;
    }

    int arm(int experiment, int customer) {
        Experiment asked = one(experiments, experiment);
        in(customer, 0, 199);
        int seat = (61 * customer + 17 * asked.layer) % 100;
        boolean isIn = !asked.hasEnded && seat >= asked.from && seat <= asked.to && on(asked.flag, customer);
        return isIn ? (seat - asked.from) % asked.arms : NONE;
    }
}
