import java.util.ArrayList;
import java.util.Arrays;
import java.util.List;

/**
 * A release platform: artefacts with contracts, rings, pipelines that a controller does step by
 * step, data, canaries, freezes, trains, flags and experiments. As in its document, "ahead of"
 * means before and "behind" means after.
 */
public final class ReleaseHouse {
    public static final int NONE = -1;

    private static final int SERVICES = 4;
    private static final int RINGS = 3;
    private static final int PEOPLE = 6;
    private static final int CUSTOMERS = 200;
    private static final int PLACES_IN_100 = 100;
    private static final int SCHEMAS = 8;
    private static final int ALL_OF_EIGHT = 255;
    private static final int ZONES = 3;
    private static final int FLAGS = 8;
    private static final int ATTRIBUTES = 3;
    private static final int PLANS = 7;
    private static final int LAYERS = 3;

    private static final int MOST_ARTEFACTS = 30;
    private static final int MOST_PROGRAMS = 6;
    private static final int MOST_STEPS = 10;
    private static final int MOST_RELEASES = 20;
    private static final int MOST_SESSIONS = 40;
    private static final int MOST_MEASURES = 600;
    private static final int MOST_FREEZES = 8;
    private static final int MOST_TRAINS = 6;
    private static final int MOST_RULES = 4;
    private static final int MOST_EXPERIMENTS = 8;
    private static final int MOST_ARMS = 4;
    private static final int MOST_SURGE = 8;
    private static final int MOST_TO_WAIT = 1000;
    private static final int MOST_TO_PASS = 200;
    private static final int MOST_MILLIS = 60000;
    private static final int LAST_MINUTE = 20000;

    /** The bucket of 60000 milliseconds is 16. */
    private static final int BUCKETS = 17;
    private static final int MOVED_IN_A_MINUTE = 5;
    private static final int PLACES_OF_A_ZONE = 4;
    private static final int PLACES_OF_STABLE = 2;
    private static final int PLACES_OF_CANDIDATES = 4;
    private static final int SMALL_SHARE = 50;
    private static final int MINUTES_TO_STALE = 500;
    private static final int CAPITAL_TO_REJECT = 20;
    private static final int MEASURES_TO_COMPARE = 10;
    private static final int PAIRS_TO_ACCEPT = 20;

    private static final int SHARE = 0;
    private static final int WAIT = 1;
    private static final int JUDGE = 2;
    private static final int APPROVE = 3;
    private static final int PROMOTE = 4;
    private static final int TRAIN = 5;
    private static final int DRAIN = 6;

    private static final int RUNNING = 0;
    private static final int OVERTAKEN = 1;
    private static final int DONE = 2;
    private static final int STOPPED = 3;
    private static final int SKIPPED = 4;

    private static final int GOES_ON = 0;
    private static final int BY_OVERTAKING = 1;
    private static final int BY_HOLD = 2;
    private static final int BY_FREEZE = 3;
    private static final int BY_RIVAL = 4;
    private static final int BY_CAPACITY = 5;
    private static final int BY_PROOF = 6;
    private static final int BY_DATA = 7;
    private static final int BY_WAIT = 8;
    private static final int BY_VERDICT = 9;
    private static final int BY_APPROVALS = 10;
    private static final int BY_TRAIN = 11;
    private static final int BY_SESSIONS = 12;
    private static final int BY_DEATH = 13;
    private static final int BY_END = 14;

    private static final int OPEN = 0;
    private static final int GOOD = 1;
    private static final int BAD = 2;

    private static final int NOT_TOLD = 0;
    private static final int AHEAD_OF_EFFECT = 1;
    private static final int BEHIND_EFFECT = 2;

    private final List<Artefact> artefacts = new ArrayList<>();
    private final List<Program> programs = new ArrayList<>();
    private final List<Release> releases = new ArrayList<>();
    private final List<Freeze> freezes = new ArrayList<>();
    private final List<Train> trains = new ArrayList<>();
    private final List<Experiment> experiments = new ArrayList<>();
    private final Service[] services = new Service[SERVICES];
    private final Flag[] flags = new Flag[FLAGS];
    private final int[] lostZones = new int[RINGS];
    private final int[] surges = new int[RINGS];
    private final int[] plans = new int[CUSTOMERS];
    private int minute;
    private int death = NOT_TOLD;
    private boolean isGone;
    private int effectCount;
    private int sessionCount;
    private int measureCount;
    private int exceptionCount;

    public ReleaseHouse() {
        for (int s = 0; s < SERVICES; s++) {
            services[s] = new Service();
        }
        for (int f = 0; f < FLAGS; f++) {
            flags[f] = new Flag();
        }
    }

    // ---- artefacts and the proof

    public int artefact(int service, int author, int keeps, int needs, int of, int reads, int writes,
            boolean isHotfix, boolean isCode) throws IllegalArgumentException, IllegalStateException {
        checkRange(service, 0, SERVICES - 1);
        checkRange(author, 0, PEOPLE - 1);
        checkRange(keeps, 0, ALL_OF_EIGHT);
        checkRange(needs, 0, ALL_OF_EIGHT);
        checkNeeded(service, needs, of);
        checkRange(reads, 1, ALL_OF_EIGHT);
        checkRange(writes, 0, SCHEMAS - 1);
        if (!isIn(reads, writes)) {
            throw new IllegalArgumentException("an artefact reads the schema that it writes");
        }
        if (artefacts.size() >= MOST_ARTEFACTS) {
            throw new IllegalStateException("there are 30 artefacts");
        }
        Artefact made = new Artefact(artefacts.size(), service, author);
        made.keeps = keeps;
        made.needs = needs;
        made.of = of;
        made.reads = reads;
        made.writes = writes;
        made.isHotfix = isHotfix;
        made.isCode = isCode;
        artefacts.add(made);
        return made.number;
    }

    private static void checkNeeded(int service, int needs, int of) {
        if (needs == 0) {
            checkRange(of, NONE, NONE);
            return;
        }
        checkRange(of, 0, SERVICES - 1);
        if (of == service) {
            throw new IllegalArgumentException("an artefact needs things of another service");
        }
    }

    public int forbids(int artefact, int other) throws IndexOutOfBoundsException {
        checkNumber(artefact, artefacts.size());
        checkNumber(other, artefacts.size());
        return artefacts.get(artefact).clashWith(artefacts.get(other));
    }

    public boolean isLive(int artefact) throws IndexOutOfBoundsException {
        checkNumber(artefact, artefacts.size());
        return artefacts.get(artefact).uses > 0;
    }

    public int mayGo(int artefact) throws IndexOutOfBoundsException {
        checkNumber(artefact, artefacts.size());
        return reasonNotToGo(artefacts.get(artefact));
    }

    private int reasonNotToGo(Artefact artefact) {
        if (artefact.uses > 0) {
            return GOES_ON;
        }
        if (!fitsToLive(artefact, null)) {
            return BY_PROOF;
        }
        if (!services[artefact.service].suitsData(artefact) || !hasWhatItNeeds(artefact)) {
            return BY_DATA;
        }
        return GOES_ON;
    }

    /** Whether it may live together with all that are live, itself and the one left out aside. */
    private boolean fitsToLive(Artefact artefact, Artefact leftOut) {
        for (int i = 0; i < artefacts.size(); i++) {
            Artefact other = artefacts.get(i);
            if (other.uses > 0 && other != artefact && other != leftOut && artefact.clashWith(other) != 0) {
                return false;
            }
        }
        return true;
    }

    private boolean hasWhatItNeeds(Artefact artefact) {
        if (artefact.needs == 0) {
            return true;
        }
        for (int i = 0; i < artefacts.size(); i++) {
            Artefact other = artefacts.get(i);
            if (other.uses > 0 && other.service == artefact.of) {
                return true;
            }
        }
        return false;
    }

    public int forbidden() {
        int pairs = 0;
        for (int i = 0; i < artefacts.size(); i++) {
            for (int j = i + 1; j < artefacts.size(); j++) {
                Artefact one = artefacts.get(i);
                Artefact other = artefacts.get(j);
                if (one.uses > 0 && other.uses > 0 && one.clashWith(other) != 0) {
                    pairs++;
                }
            }
        }
        return pairs;
    }

    // ---- programs and releases

    public int program() throws IllegalStateException {
        if (programs.size() >= MOST_PROGRAMS) {
            throw new IllegalStateException("there are 6 programs");
        }
        programs.add(new Program());
        return programs.size() - 1;
    }

    public int step(int program, int kind, int of, int with)
            throws IndexOutOfBoundsException, IllegalArgumentException, IllegalStateException {
        checkNumber(program, programs.size());
        checkStep(kind, of, with);
        Program changed = programs.get(program);
        if (changed.length >= MOST_STEPS || changed.isUsed) {
            throw new IllegalStateException("the program has 10 steps or a release is by it");
        }
        changed.append(kind, of, with);
        return changed.length;
    }

    private static void checkStep(int kind, int of, int with) {
        switch (kind) {
            case SHARE:
                checkRange(of, 0, RINGS - 1);
                checkRange(with, 1, 100);
                break;
            case JUDGE:
            case PROMOTE:
            case DRAIN:
                checkRange(of, 0, RINGS - 1);
                break;
            case WAIT:
                checkRange(of, 0, MOST_TO_WAIT);
                break;
            case APPROVE:
                checkRange(of, 0, PEOPLE - 1);
                break;
            case TRAIN:
                break;
            default:
                throw new IllegalArgumentException("there is no such kind of step");
        }
    }

    public int release(int artefact, int program) throws IndexOutOfBoundsException, IllegalStateException {
        checkNumber(artefact, artefacts.size());
        checkNumber(program, programs.size());
        Artefact released = artefacts.get(artefact);
        Program done = programs.get(program);
        if (releases.size() >= MOST_RELEASES || done.length == 0 || releaseUnderWay(released) != null) {
            throw new IllegalStateException("there are 20, no steps, or the artefact is being released");
        }
        done.isUsed = true;
        releases.add(new Release(released, done, minute));
        return releases.size() - 1;
    }

    /** The release of an artefact that has not ended, null if there is none. */
    private Release releaseUnderWay(Artefact artefact) {
        for (int i = 0; i < releases.size(); i++) {
            Release release = releases.get(i);
            if (release.artefact == artefact && !release.hasEnded()) {
                return release;
            }
        }
        return null;
    }

    public int approve(int release, int person)
            throws IndexOutOfBoundsException, IllegalArgumentException, IllegalStateException {
        checkNumber(release, releases.size());
        checkRange(person, 0, PEOPLE - 1);
        Release approved = releases.get(release);
        if (approved.artefact.author == person || isIn(approved.approvals, person) || approved.hasEnded()) {
            throw new IllegalStateException("the person may not approve it, or it has ended");
        }
        approved.approvals |= 1 << person;
        return Integer.bitCount(approved.approvals);
    }

    public int stop(int release) throws IndexOutOfBoundsException, IllegalStateException {
        checkNumber(release, releases.size());
        Release stopped = releases.get(release);
        if (stopped.hasEnded()) {
            throw new IllegalStateException("the release has ended");
        }
        int stuck = bringToStop(stopped);
        countEffects(services[stopped.artefact.service]);
        return stuck;
    }

    /** Returns how many rings are stuck. */
    private int bringToStop(Release release) {
        dropCandidates(release.artefact);
        int stuck = 0;
        for (int ring = 0; ring < RINGS; ring++) {
            if (release.didPromote[ring] && !goesBack(release, ring)) {
                stuck++;
            }
        }
        bringToEnd(release, STOPPED);
        return stuck;
    }

    /** Makes the stable artefact ahead of a release stable again; false if the ring is stuck. */
    private boolean goesBack(Release release, int ring) {
        Artefact artefact = release.artefact;
        Service service = services[artefact.service];
        Spot spot = service.spots[ring];
        if (spot.stable != artefact) {
            return true;
        }
        Artefact before = release.stableBefore[ring];
        // Its candidates are gone, so a single use is that in this ring, which would end.
        Artefact leftOut = artefact.uses == 1 ? artefact : null;
        if (before == null || !fitsToLive(before, leftOut) || !service.suitsData(before)) {
            return false;
        }
        spot.become(before, spot.candidate, spot.share);
        return true;
    }

    private void dropCandidates(Artefact artefact) {
        Service service = services[artefact.service];
        for (int ring = 0; ring < RINGS; ring++) {
            Spot spot = service.spots[ring];
            if (spot.candidate == artefact) {
                spot.become(spot.stable, null, 0);
            }
        }
    }

    private void bringToEnd(Release release, int state) {
        release.state = state;
        if (!release.artefact.isHotfix) {
            return;
        }
        for (int i = 0; i < releases.size(); i++) {
            Release other = releases.get(i);
            if (other.state == OVERTAKEN && other.artefact.service == release.artefact.service) {
                other.state = RUNNING;
                other.comeTo(0, minute);
            }
        }
    }

    /** An effect counts once for a ring and a step, however much has changed there in it. */
    private void countEffects(Service service) {
        for (int ring = 0; ring < RINGS; ring++) {
            Spot spot = service.spots[ring];
            if (spot.hasChanged) {
                effectCount++;
                spot.hasChanged = false;
            }
        }
    }

    public int state(int release) throws IndexOutOfBoundsException {
        checkNumber(release, releases.size());
        return releases.get(release).state;
    }

    public int at(int release) throws IndexOutOfBoundsException {
        checkNumber(release, releases.size());
        return releases.get(release).at;
    }

    public int why(int release) throws IndexOutOfBoundsException {
        checkNumber(release, releases.size());
        Release asked = releases.get(release);
        if (asked.hasEnded()) {
            return BY_END;
        }
        if (isGone) {
            return BY_DEATH;
        }
        return asked.state == OVERTAKEN ? BY_OVERTAKING : reasonAtStep(asked);
    }

    private int reasonAtStep(Release release) {
        int of = release.ofNow();
        switch (release.kindNow()) {
            case SHARE:
            case PROMOTE:
                return reasonNotToPut(release, of, release.shareNow());
            case WAIT:
                return minute - release.cameAt < of ? BY_WAIT : GOES_ON;
            case JUDGE:
                Spot judged = services[release.artefact.service].spots[of];
                return judged.candidate != release.artefact || judged.judgement() == OPEN ? BY_VERDICT : GOES_ON;
            case APPROVE:
                return Integer.bitCount(release.approvals) < of ? BY_APPROVALS : GOES_ON;
            case TRAIN:
                return release.isTaken ? GOES_ON : BY_TRAIN;
            case DRAIN:
                return isDrained(release.artefact.service, of) ? GOES_ON : BY_SESSIONS;
            default:
                return GOES_ON;
        }
    }

    /** The share is 0 for PROMOTE. */
    private int reasonNotToPut(Release release, int ring, int share) {
        Artefact artefact = release.artefact;
        Service service = services[artefact.service];
        Spot spot = service.spots[ring];
        if (spot.stable == artefact || spot.hasNewerThan(artefact)) {
            return GOES_ON;
        }
        if (service.isHeld) {
            return BY_HOLD;
        }
        if (isFrozen(release, ring)) {
            return BY_FREEZE;
        }
        Release rival = rivalOf(artefact, spot);
        if (rival != null && (!artefact.isHotfix || rival.artefact.isHotfix)) {
            return BY_RIVAL;
        }
        if (!hasRoom(artefact, ring, share, rival)) {
            return BY_CAPACITY;
        }
        return reasonNotToGo(artefact);
    }

    /** The release under way of another artefact that is the candidate there, null if there is none. */
    private Release rivalOf(Artefact artefact, Spot spot) {
        if (spot.candidate == null || spot.candidate == artefact) {
            return null;
        }
        return releaseUnderWay(spot.candidate);
    }

    private boolean isFrozen(Release release, int ring) {
        if (release.isExcepted) {
            return false;
        }
        for (int i = 0; i < freezes.size(); i++) {
            Freeze freeze = freezes.get(i);
            if (freeze.ring == ring && freeze.from <= minute && minute <= freeze.to
                    && freeze.holdsFor(release.artefact)) {
                return true;
            }
        }
        return false;
    }

    private boolean hasRoom(Artefact artefact, int ring, int share, Release rival) {
        Service service = services[artefact.service];
        Spot spot = service.spots[ring];
        int ahead = placesTaken(ring);
        int behind = ahead - placesFor(spot.share) + placesFor(share);
        if (share == 0 && spot.stable == null) {
            behind += PLACES_OF_STABLE;
        }
        if (behind > placesIn(ring) && behind > ahead) {
            return false;
        }
        if (share == 0) {
            return true;
        }
        int ofCandidates = placesFor(share);
        for (int r = 0; r < RINGS; r++) {
            Spot elsewhere = service.spots[r];
            boolean isToGo = rival != null && elsewhere.candidate == rival.artefact;
            if (r != ring && !isToGo) {
                ofCandidates += placesFor(elsewhere.share);
            }
        }
        return ofCandidates <= PLACES_OF_CANDIDATES;
    }

    private int placesTaken(int ring) {
        int taken = 0;
        for (int s = 0; s < SERVICES; s++) {
            Spot spot = services[s].spots[ring];
            taken += placesFor(spot.share);
            if (spot.stable != null) {
                taken += PLACES_OF_STABLE;
            }
        }
        return taken;
    }

    /** What a candidate with a share takes; the share 0 tells that there is none. */
    private static int placesFor(int share) {
        if (share == 0) {
            return 0;
        }
        return share <= SMALL_SHARE ? 1 : 2;
    }

    private int placesIn(int ring) {
        return PLACES_OF_A_ZONE * (ZONES - Integer.bitCount(lostZones[ring])) + surges[ring];
    }

    private boolean isDrained(int service, int ring) {
        Artefact stable = services[service].spots[ring].stable;
        for (int i = 0; i < artefacts.size(); i++) {
            Artefact other = artefacts.get(i);
            if (other.service == service && other != stable && other.sessions[ring] > 0) {
                return false;
            }
        }
        return true;
    }

    // ---- minutes and the controller

    public int pass(int minutes) throws IllegalArgumentException, IllegalStateException {
        checkRange(minutes, 1, MOST_TO_PASS);
        if (minute + minutes > LAST_MINUTE) {
            throw new IllegalStateException("more than 20000 minutes would have gone by");
        }
        int noted = 0;
        for (int i = 0; i < minutes; i++) {
            minute++;
            for (int s = 0; s < SERVICES; s++) {
                services[s].growData();
            }
            leaveWithTrains();
            noted += takeTurns(true);
            noted += takeTurns(false);
        }
        return noted;
    }

    private void leaveWithTrains() {
        for (int i = 0; i < trains.size(); i++) {
            Train train = trains.get(i);
            if (train.minute == minute) {
                leaveWith(train);
            }
        }
    }

    private void leaveWith(Train train) {
        train.taken = 0;
        for (int i = 0; i < releases.size(); i++) {
            Release release = releases.get(i);
            if (release.boarded == train) {
                release.boarded = null;
                if (release.state == RUNNING && release.kindNow() == TRAIN) {
                    release.isTaken = true;
                    train.taken++;
                }
            }
        }
    }

    /** Returns how many steps are noted. */
    private int takeTurns(boolean ofHotfixes) {
        int noted = 0;
        for (int i = 0; i < releases.size() && !isGone; i++) {
            Release release = releases.get(i);
            if (release.artefact.isHotfix == ofHotfixes && release.state == RUNNING
                    && reasonAtStep(release) == GOES_ON && goOn(release)) {
                noted++;
            }
        }
        return noted;
    }

    /** Does a step that goes on; returns whether it is noted. */
    private boolean goOn(Release release) {
        if (death == AHEAD_OF_EFFECT) {
            isGone = true;
            return false;
        }
        doEffect(release);
        countEffects(services[release.artefact.service]);
        boolean isNoted = release.hasEnded();
        if (death == BEHIND_EFFECT) {
            isGone = true;
            return isNoted;
        }
        if (!isNoted) {
            noteStep(release);
        }
        return true;
    }

    /** A stop or a skip is noted with its effect: the release has ended then. */
    private void doEffect(Release release) {
        Spot[] spots = services[release.artefact.service].spots;
        int of = release.ofNow();
        switch (release.kindNow()) {
            case SHARE:
            case PROMOTE:
                if (spots[of].hasNewerThan(release.artefact)) {
                    dropCandidates(release.artefact);
                    bringToEnd(release, SKIPPED);
                } else if (spots[of].stable != release.artefact) {
                    put(release, of, release.shareNow());
                }
                break;
            case JUDGE:
                if (spots[of].judgement() == BAD) {
                    bringToStop(release);
                }
                break;
            default:
                break;
        }
    }

    private void put(Release release, int ring, int share) {
        Artefact artefact = release.artefact;
        Spot spot = services[artefact.service].spots[ring];
        Release rival = rivalOf(artefact, spot);
        if (rival != null) {
            rival.state = OVERTAKEN;
            dropCandidates(rival.artefact);
        }
        if (share > 0) {
            spot.become(spot.stable, artefact, share);
        } else {
            release.didPromote[ring] = true;
            release.stableBefore[ring] = spot.stable;
            spot.become(artefact, null, 0);
        }
    }

    private void noteStep(Release release) {
        release.comeTo(release.at + 1, minute);
        if (release.at >= release.program.length) {
            bringToEnd(release, DONE);
        }
    }

    public void die(boolean isBehind) throws IllegalStateException {
        if (isGone) {
            throw new IllegalStateException("the controller is dead");
        }
        death = isBehind ? BEHIND_EFFECT : AHEAD_OF_EFFECT;
    }

    public int rise() throws IllegalStateException {
        if (!isGone) {
            throw new IllegalStateException("the controller is not dead");
        }
        isGone = false;
        death = NOT_TOLD;
        int running = 0;
        for (int i = 0; i < releases.size(); i++) {
            if (releases.get(i).state == RUNNING) {
                running++;
            }
        }
        return running;
    }

    public boolean isDead() {
        return isGone;
    }

    public int effects() {
        return effectCount;
    }

    // ---- rings and customers

    public int stable(int service, int ring) throws IllegalArgumentException {
        return numberOf(spotIn(service, ring).stable);
    }

    public int candidate(int service, int ring) throws IllegalArgumentException {
        return numberOf(spotIn(service, ring).candidate);
    }

    public int share(int service, int ring) throws IllegalArgumentException {
        return spotIn(service, ring).share;
    }

    public int sees(int service, int customer) throws IllegalArgumentException {
        checkRange(service, 0, SERVICES - 1);
        checkRange(customer, 0, CUSTOMERS - 1);
        return numberOf(seenBy(service, customer));
    }

    private Artefact seenBy(int service, int customer) {
        Artefact ofSession = services[service].sessions[customer];
        if (ofSession != null) {
            return ofSession;
        }
        Spot spot = services[service].spots[ringOf(customer)];
        int place = (37 * customer + 11 * service) % PLACES_IN_100;
        return place < spot.share ? spot.candidate : spot.stable;
    }

    public int seers(int artefact, int ring) throws IndexOutOfBoundsException, IllegalArgumentException {
        checkNumber(artefact, artefacts.size());
        checkRange(ring, 0, RINGS - 1);
        Artefact seen = artefacts.get(artefact);
        int count = 0;
        for (int customer = 0; customer < CUSTOMERS; customer++) {
            if (ringOf(customer) == ring && seenBy(seen.service, customer) == seen) {
                count++;
            }
        }
        return count;
    }

    public int begin(int service, int customer) throws IllegalArgumentException, IllegalStateException {
        checkRange(service, 0, SERVICES - 1);
        checkRange(customer, 0, CUSTOMERS - 1);
        Artefact[] sessions = services[service].sessions;
        Artefact seen = seenBy(service, customer);
        if (sessions[customer] != null || seen == null || sessionCount >= MOST_SESSIONS) {
            throw new IllegalStateException("there is a session, nothing to see, or 40 sessions");
        }
        sessions[customer] = seen;
        sessionCount++;
        seen.uses++;
        seen.sessions[ringOf(customer)]++;
        return seen.number;
    }

    public int end(int service, int customer) throws IllegalArgumentException, IllegalStateException {
        checkRange(service, 0, SERVICES - 1);
        checkRange(customer, 0, CUSTOMERS - 1);
        Artefact[] sessions = services[service].sessions;
        Artefact seen = sessions[customer];
        if (seen == null) {
            throw new IllegalStateException("the customer has no session of the service");
        }
        sessions[customer] = null;
        sessionCount--;
        seen.uses--;
        seen.sessions[ringOf(customer)]--;
        return seen.number;
    }

    public int wayOut(int service, int ring) throws IllegalArgumentException {
        Artefact stable = spotIn(service, ring).stable;
        if (stable == null) {
            return NONE;
        }
        for (int i = stable.number + 1; i < artefacts.size(); i++) {
            Artefact newer = artefacts.get(i);
            if (newer.service == service && reasonNotToGo(newer) == GOES_ON) {
                return newer.number;
            }
        }
        return NONE;
    }

    // ---- data

    public void expand(int service, int schema) throws IllegalArgumentException, IllegalStateException {
        checkRange(service, 0, SERVICES - 1);
        checkRange(schema, 0, SCHEMAS - 1);
        Service changed = services[service];
        if (isIn(changed.openSchemas, schema)) {
            throw new IllegalStateException("the schema is open");
        }
        changed.openSchemas |= 1 << schema;
    }

    public void migrate(int service, int from, int to)
            throws IllegalArgumentException, IllegalStateException {
        checkRange(service, 0, SERVICES - 1);
        checkRange(from, 0, SCHEMAS - 1);
        checkRange(to, 0, SCHEMAS - 1);
        if (from == to) {
            throw new IllegalArgumentException("a migration goes to another schema");
        }
        Service changed = services[service];
        if (changed.migratesTo != NONE || !isIn(changed.openSchemas, to) || !doAllRead(service, to)) {
            throw new IllegalStateException("a migration runs, or the schema is not open or not read");
        }
        changed.migratesFrom = from;
        changed.migratesTo = to;
        changed.moved = 0;
    }

    private boolean doAllRead(int service, int schema) {
        for (int i = 0; i < artefacts.size(); i++) {
            Artefact artefact = artefacts.get(i);
            if (artefact.service == service && artefact.uses > 0 && !isIn(artefact.reads, schema)) {
                return false;
            }
        }
        return true;
    }

    public int halt(int service) throws IllegalArgumentException, IllegalStateException {
        checkRange(service, 0, SERVICES - 1);
        Service changed = services[service];
        if (changed.migratesTo == NONE) {
            throw new IllegalStateException("no migration runs");
        }
        changed.migratesFrom = NONE;
        changed.migratesTo = NONE;
        return changed.moved;
    }

    public void contract(int service, int schema) throws IllegalArgumentException, IllegalStateException {
        checkRange(service, 0, SERVICES - 1);
        checkRange(schema, 0, SCHEMAS - 1);
        Service changed = services[service];
        if (!isIn(changed.openSchemas, schema) || changed.units[schema] > 0
                || changed.migratesTo == schema || doesOneWrite(service, schema)) {
            throw new IllegalStateException("the schema is not open, or is stored, written or migrated to");
        }
        changed.openSchemas &= ~(1 << schema);
    }

    private boolean doesOneWrite(int service, int schema) {
        for (int i = 0; i < artefacts.size(); i++) {
            Artefact artefact = artefacts.get(i);
            if (artefact.service == service && artefact.uses > 0 && artefact.writes == schema) {
                return true;
            }
        }
        return false;
    }

    public int units(int service, int schema) throws IllegalArgumentException {
        checkRange(service, 0, SERVICES - 1);
        checkRange(schema, 0, SCHEMAS - 1);
        return services[service].units[schema];
    }

    // ---- canaries

    public int measure(int service, int ring, boolean isCandidate, boolean isBad, int millis)
            throws IllegalArgumentException, IllegalStateException {
        Spot spot = spotIn(service, ring);
        checkRange(millis, 0, MOST_MILLIS);
        if (spot.candidate == null || spot.stable == null || measureCount >= MOST_MEASURES) {
            throw new IllegalStateException("there are not both artefacts, or 600 measures were taken");
        }
        measureCount++;
        return spot.takeMeasure(isCandidate, isBad, millis);
    }

    public double capital(int service, int ring) throws IllegalArgumentException {
        return spotIn(service, ring).capital;
    }

    public int verdict(int service, int ring) throws IllegalArgumentException {
        return spotIn(service, ring).judgement();
    }

    public int verdictByAll(int service, int ring) throws IllegalArgumentException {
        return spotIn(service, ring).judgementAnew();
    }

    public float badPart(int service, int ring, boolean isCandidate) throws IllegalArgumentException {
        Sample sample = spotIn(service, ring).sampleOf(isCandidate);
        return sample.count > 0 ? (float) sample.bad / sample.count : 0.0f;
    }

    // ---- holds, freezes, capacity, trains

    public boolean hold(int service) throws IllegalArgumentException {
        checkRange(service, 0, SERVICES - 1);
        Service changed = services[service];
        changed.isHeld = !changed.isHeld;
        return changed.isHeld;
    }

    public int freeze(int ring, int from, int to, int level)
            throws IllegalArgumentException, IllegalStateException {
        checkRange(ring, 0, RINGS - 1);
        checkRange(from, 0, LAST_MINUTE);
        checkRange(to, from, LAST_MINUTE);
        checkRange(level, Freeze.OF_CODE, Freeze.OF_ALL);
        if (freezes.size() >= MOST_FREEZES) {
            throw new IllegalStateException("there are 8 freezes");
        }
        freezes.add(new Freeze(ring, from, to, level));
        return freezes.size() - 1;
    }

    public int except(int release, int person)
            throws IndexOutOfBoundsException, IllegalArgumentException, IllegalStateException {
        checkNumber(release, releases.size());
        checkRange(person, 0, PEOPLE - 1);
        Release excepted = releases.get(release);
        if (excepted.artefact.author == person || excepted.isExcepted || excepted.hasEnded()) {
            throw new IllegalStateException("the person may not except it, or it is excepted or has ended");
        }
        excepted.isExcepted = true;
        exceptionCount++;
        return exceptionCount;
    }

    public boolean zone(int ring, int zone) throws IllegalArgumentException {
        checkRange(ring, 0, RINGS - 1);
        checkRange(zone, 0, ZONES - 1);
        lostZones[ring] ^= 1 << zone;
        return isIn(lostZones[ring], zone);
    }

    public int surge(int ring, int places) throws IllegalArgumentException {
        checkRange(ring, 0, RINGS - 1);
        checkRange(places, 0, MOST_SURGE);
        int before = surges[ring];
        surges[ring] = places;
        return before;
    }

    public int left(int ring) throws IllegalArgumentException {
        checkRange(ring, 0, RINGS - 1);
        return placesIn(ring) - placesTaken(ring);
    }

    public int train(int minute) throws IllegalArgumentException, IllegalStateException {
        if (minute <= this.minute || minute > LAST_MINUTE) {
            throw new IllegalArgumentException("a train leaves behind now, by the minute 20000");
        }
        if (trains.size() >= MOST_TRAINS) {
            throw new IllegalStateException("there are 6 trains");
        }
        trains.add(new Train(minute));
        return trains.size() - 1;
    }

    public int board(int train, int release) throws IndexOutOfBoundsException, IllegalStateException {
        checkNumber(train, trains.size());
        checkNumber(release, releases.size());
        Train boarded = trains.get(train);
        Release boarding = releases.get(release);
        if (boarded.taken != NONE || boarding.hasEnded() || boarding.boarded == boarded) {
            throw new IllegalStateException("the train has left, or the release has ended or is on board");
        }
        boarding.boarded = boarded;
        int onBoard = 0;
        for (int i = 0; i < releases.size(); i++) {
            if (releases.get(i).boarded == boarded) {
                onBoard++;
            }
        }
        return onBoard;
    }

    public int taken(int train) throws IndexOutOfBoundsException {
        checkNumber(train, trains.size());
        return trains.get(train).taken;
    }

    // ---- flags and experiments

    public void flag(int flag, int percentage, int needs)
            throws IllegalArgumentException, IllegalStateException {
        checkRange(flag, 0, FLAGS - 1);
        checkRange(percentage, 0, 100);
        checkRange(needs, NONE, FLAGS - 1);
        if (wouldNeedItself(flag, needs)) {
            throw new IllegalStateException("the flag would need itself");
        }
        flags[flag].percentage = percentage;
        flags[flag].needs = needs;
    }

    private boolean wouldNeedItself(int flag, int needs) {
        int needed = needs;
        // No flag needs itself so far: the chain has ended behind as many flags as there are.
        for (int i = 0; i < FLAGS && needed != NONE; i++) {
            if (needed == flag) {
                return true;
            }
            needed = flags[needed].needs;
        }
        return false;
    }

    public int target(int flag, int attribute, boolean isLeast, int number, int outcome)
            throws IllegalArgumentException, IllegalStateException {
        checkRange(flag, 0, FLAGS - 1);
        checkRange(attribute, 0, ATTRIBUTES - 1);
        checkRange(number, 0, 6);
        checkRange(outcome, Rule.OFF, 100);
        List<Rule> rules = flags[flag].rules;
        if (rules.size() >= MOST_RULES) {
            throw new IllegalStateException("the flag has 4 rules");
        }
        rules.add(new Rule(attribute, isLeast, number, outcome));
        return rules.size();
    }

    public boolean kill(int flag) throws IllegalArgumentException {
        checkRange(flag, 0, FLAGS - 1);
        flags[flag].isKilled = !flags[flag].isKilled;
        return flags[flag].isKilled;
    }

    public void setPlan(int customer, int plan) throws IllegalArgumentException {
        checkRange(customer, 0, CUSTOMERS - 1);
        checkRange(plan, 0, PLANS - 1);
        plans[customer] = plan;
    }

    public boolean isOn(int flag, int customer) throws IllegalArgumentException {
        checkRange(flag, 0, FLAGS - 1);
        checkRange(customer, 0, CUSTOMERS - 1);
        flags[flag].askedAt = minute;
        return isFlagOn(flag, customer);
    }

    /** A flag is on, if it and all that it needs, one by way of the other, would be on by themselves. */
    private boolean isFlagOn(int flag, int customer) {
        int needed = flag;
        for (int i = 0; i < FLAGS && needed != NONE; i++) {
            if (flags[needed].isKilled || !isOnByItself(needed, customer)) {
                return false;
            }
            needed = flags[needed].needs;
        }
        return true;
    }

    private boolean isOnByItself(int flag, int customer) {
        List<Rule> rules = flags[flag].rules;
        for (int i = 0; i < rules.size(); i++) {
            Rule rule = rules.get(i);
            if (rule.meets(attributeOf(customer, rule.attribute))) {
                return rule.outcome == Rule.ON
                        || rule.outcome != Rule.OFF && isWithin(flag, customer, rule.outcome);
            }
        }
        return isWithin(flag, customer, flags[flag].percentage);
    }

    private static boolean isWithin(int flag, int customer, int percentage) {
        return (53 * customer + 29 * flag) % PLACES_IN_100 < percentage;
    }

    private int attributeOf(int customer, int attribute) {
        if (attribute == 0) {
            return ringOf(customer);
        }
        return attribute == 1 ? customer % 7 : plans[customer];
    }

    public int stale() {
        int found = 0;
        for (int f = 0; f < FLAGS; f++) {
            if (minute - flags[f].askedAt >= MINUTES_TO_STALE) {
                found |= 1 << f;
            }
        }
        return found;
    }

    public int experiment(int layer, int flag, int from, int to, int arms)
            throws IllegalArgumentException, IllegalStateException {
        checkRange(layer, 0, LAYERS - 1);
        checkRange(flag, 0, FLAGS - 1);
        checkRange(from, 0, PLACES_IN_100 - 1);
        checkRange(to, from, PLACES_IN_100 - 1);
        checkRange(arms, 2, MOST_ARMS);
        if (experiments.size() >= MOST_EXPERIMENTS || isSeatOfOne(layer, from, to)) {
            throw new IllegalStateException("there are 8 experiments, or a seat is of another one");
        }
        experiments.add(new Experiment(layer, flag, from, to, arms));
        return experiments.size() - 1;
    }

    private boolean isSeatOfOne(int layer, int from, int to) {
        for (int i = 0; i < experiments.size(); i++) {
            Experiment other = experiments.get(i);
            if (!other.hasEnded && other.layer == layer && other.from <= to && from <= other.to) {
                return true;
            }
        }
        return false;
    }

    public void conclude(int experiment) throws IndexOutOfBoundsException, IllegalStateException {
        checkNumber(experiment, experiments.size());
        Experiment concluded = experiments.get(experiment);
        if (concluded.hasEnded) {
            throw new IllegalStateException("the experiment has ended");
        }
        concluded.hasEnded = true;
    }

    public int arm(int experiment, int customer) throws IndexOutOfBoundsException, IllegalArgumentException {
        checkNumber(experiment, experiments.size());
        checkRange(customer, 0, CUSTOMERS - 1);
        Experiment asked = experiments.get(experiment);
        int seat = (61 * customer + 17 * asked.layer) % PLACES_IN_100;
        if (asked.hasEnded || seat < asked.from || seat > asked.to || !isFlagOn(asked.flag, customer)) {
            return NONE;
        }
        return asked.armOf(seat);
    }

    // ---- what several of these use

    private static void checkNumber(int number, int count) {
        if (number < 0 || number >= count) {
            throw new IndexOutOfBoundsException("there is none with this number");
        }
    }

    private static void checkRange(int value, int least, int most) {
        if (value < least || value > most) {
            throw new IllegalArgumentException("an argument is out of its range");
        }
    }

    private Spot spotIn(int service, int ring) {
        checkRange(service, 0, SERVICES - 1);
        checkRange(ring, 0, RINGS - 1);
        return services[service].spots[ring];
    }

    private static boolean isIn(int set, int element) {
        return (set & 1 << element) != 0;
    }

    private static int numberOf(Artefact artefact) {
        return artefact == null ? NONE : artefact.number;
    }

    private static int ringOf(int customer) {
        int last = customer % 10;
        if (last == 0) {
            return 0;
        }
        return last <= 3 ? 1 : 2;
    }

    private static final class Artefact {
        final int number;
        final int service;
        final int author;
        int keeps;
        int needs;
        int of;
        int reads;
        int writes;
        boolean isHotfix;
        boolean isCode;
        /** In how many rings it is stable or a candidate, and in how many sessions: live above 0. */
        int uses;
        /** Its sessions, by the ring of the customer. */
        final int[] sessions = new int[RINGS];

        Artefact(int number, int service, int author) {
            this.number = number;
            this.service = service;
            this.author = author;
        }

        /** The reason why both may not live together, 0 if they may. */
        int clashWith(Artefact other) {
            if (service == other.service) {
                if ((reads & 1 << other.writes) == 0) {
                    return 1;
                }
                return (other.reads & 1 << writes) == 0 ? 2 : 0;
            }
            if (of == other.service && (needs & ~other.keeps) != 0) {
                return 3;
            }
            return other.of == service && (other.needs & ~keeps) != 0 ? 4 : 0;
        }
    }

    private static final class Program {
        final int[] kinds = new int[MOST_STEPS];
        final int[] ofs = new int[MOST_STEPS];
        final int[] withs = new int[MOST_STEPS];
        int length;
        boolean isUsed;

        void append(int kind, int of, int with) {
            kinds[length] = kind;
            ofs[length] = of;
            withs[length] = with;
            length++;
        }
    }

    private static final class Release {
        final Artefact artefact;
        final Program program;
        int state = RUNNING;
        int at;
        int cameAt;
        int approvals;
        boolean isExcepted;
        /** The train that it is on board of, null if none. */
        Train boarded;
        /** Whether a train has taken it since it came to its step. */
        boolean isTaken;
        /** By rings: whether a PROMOTE had an effect there, and what was stable ahead of it. */
        final boolean[] didPromote = new boolean[RINGS];
        final Artefact[] stableBefore = new Artefact[RINGS];

        Release(Artefact artefact, Program program, int minute) {
            this.artefact = artefact;
            this.program = program;
            this.cameAt = minute;
        }

        boolean hasEnded() {
            return state != RUNNING && state != OVERTAKEN;
        }

        void comeTo(int step, int minute) {
            at = step;
            cameAt = minute;
            isTaken = false;
        }

        int kindNow() {
            return at < program.length ? program.kinds[at] : NONE;
        }

        int ofNow() {
            return at < program.length ? program.ofs[at] : NONE;
        }

        /** The share that its step gives; 0 for PROMOTE, which leaves no candidate. */
        int shareNow() {
            return kindNow() == SHARE ? program.withs[at] : 0;
        }
    }

    private static final class Service {
        final Spot[] spots = new Spot[RINGS];
        final int[] units = new int[SCHEMAS];
        /** By customers: the artefact of the session, null if there is none. */
        final Artefact[] sessions = new Artefact[CUSTOMERS];
        int openSchemas = 1;
        int migratesFrom = NONE;
        int migratesTo = NONE;
        int moved;
        boolean isHeld;

        Service() {
            for (int ring = 0; ring < RINGS; ring++) {
                spots[ring] = new Spot();
            }
        }

        boolean suitsData(Artefact artefact) {
            int toRead = 0;
            for (int schema = 0; schema < SCHEMAS; schema++) {
                if (units[schema] > 0 || schema == migratesTo) {
                    toRead |= 1 << schema;
                }
            }
            return isIn(openSchemas, artefact.writes) && (toRead & ~artefact.reads) == 0;
        }

        void growData() {
            for (int ring = 0; ring < RINGS; ring++) {
                Spot spot = spots[ring];
                if (spot.stable != null) {
                    units[spot.stable.writes]++;
                }
                if (spot.candidate != null) {
                    units[spot.candidate.writes]++;
                }
            }
            if (migratesFrom != NONE && migratesTo != NONE) {
                int taken = Math.min(MOVED_IN_A_MINUTE, units[migratesFrom]);
                units[migratesFrom] -= taken;
                units[migratesTo] += taken;
                moved += taken;
            }
        }
    }

    /** A service in a ring, with the test of its candidate against its stable artefact. */
    private static final class Spot {
        Artefact stable;
        Artefact candidate;
        /** Of the candidate; 0 if there is none. */
        int share;
        /** Since effects were counted the last time. */
        boolean hasChanged;
        double capital = 1.0;
        final Sample ofCandidate = new Sample();
        final Sample ofStable = new Sample();

        boolean hasNewerThan(Artefact artefact) {
            return stable != null && stable.number > artefact.number;
        }

        void become(Artefact nextStable, Artefact nextCandidate, int nextShare) {
            if (nextStable == stable && nextCandidate == candidate && nextShare == share) {
                return;
            }
            hasChanged = true;
            if (nextStable != stable || nextCandidate != candidate) {
                capital = 1.0;
                ofCandidate.empty();
                ofStable.empty();
            }
            addUse(stable, -1);
            addUse(candidate, -1);
            addUse(nextStable, 1);
            addUse(nextCandidate, 1);
            stable = nextStable;
            candidate = nextCandidate;
            share = nextShare;
        }

        private static void addUse(Artefact artefact, int change) {
            if (artefact != null) {
                artefact.uses += change;
            }
        }

        Sample sampleOf(boolean isCandidate) {
            return isCandidate ? ofCandidate : ofStable;
        }

        int takeMeasure(boolean isCandidate, boolean isBad, int millis) {
            Sample sample = sampleOf(isCandidate);
            sample.add(isBad, millis);
            // Only a measure that has its fellow already makes a pair; each pair is made once so.
            if (sample.count <= sampleOf(!isCandidate).count) {
                capital = capitalBehindPair(capital, sample.count - 1);
            }
            return sample.count;
        }

        private double capitalBehindPair(double before, int pair) {
            boolean isCandidateBad = ofCandidate.isBad(pair);
            if (before >= CAPITAL_TO_REJECT || isCandidateBad == ofStable.isBad(pair)) {
                return before;
            }
            return isCandidateBad ? before * 1.5 : before * 0.5;
        }

        int judgement() {
            return judgementBy(capital, ofCandidate.slowBucket(), ofStable.slowBucket());
        }

        /** The same from all measures, without the capital and the buckets that are kept. */
        int judgementAnew() {
            double found = 1.0;
            for (int pair = 0; pair < pairs(); pair++) {
                found = capitalBehindPair(found, pair);
            }
            return judgementBy(found, ofCandidate.slowBucketAnew(), ofStable.slowBucketAnew());
        }

        private int judgementBy(double grown, int slowOfCandidate, int slowOfStable) {
            boolean isSlower = pairs() >= MEASURES_TO_COMPARE && slowOfCandidate > slowOfStable + 1;
            if (grown >= CAPITAL_TO_REJECT || isSlower) {
                return BAD;
            }
            return pairs() >= PAIRS_TO_ACCEPT ? GOOD : OPEN;
        }

        private int pairs() {
            return Math.min(ofCandidate.count, ofStable.count);
        }
    }

    /** The measures of one artefact in a test. */
    private static final class Sample {
        /** Of each measure the bucket, doubled, and 1 more if it is bad. */
        int[] codes = new int[8];
        int count;
        int bad;
        final int[] inBucket = new int[BUCKETS];

        void empty() {
            count = 0;
            bad = 0;
            for (int bucket = 0; bucket < BUCKETS; bucket++) {
                inBucket[bucket] = 0;
            }
        }

        void add(boolean isBad, int millis) {
            int bucket = 0;
            while (bucket < BUCKETS - 1 && millis >> bucket != 0) {
                bucket++;
            }
            if (count >= codes.length) {
                codes = Arrays.copyOf(codes, count * 2);
            }
            codes[count] = bucket * 2 + (isBad ? 1 : 0);
            count++;
            bad += isBad ? 1 : 0;
            inBucket[bucket]++;
        }

        boolean isBad(int measure) {
            return measure >= 0 && measure < count && (codes[measure] & 1) == 1;
        }

        int slowBucket() {
            int soFar = 0;
            for (int bucket = 0; bucket < BUCKETS; bucket++) {
                soFar += inBucket[bucket];
                if (areNineTenths(soFar)) {
                    return bucket;
                }
            }
            return BUCKETS - 1;
        }

        int slowBucketAnew() {
            for (int bucket = 0; bucket < BUCKETS; bucket++) {
                int soFar = 0;
                for (int i = 0; i < count; i++) {
                    soFar += codes[i] >> 1 <= bucket ? 1 : 0;
                }
                if (areNineTenths(soFar)) {
                    return bucket;
                }
            }
            return BUCKETS - 1;
        }

        private boolean areNineTenths(int some) {
            return some * 10 >= count * 9;
        }
    }

    private static final class Freeze {
        static final int OF_CODE = 1;
        static final int OF_NO_HOTFIX = 2;
        static final int OF_ALL = 3;

        final int ring;
        final int from;
        final int to;
        final int level;

        Freeze(int ring, int from, int to, int level) {
            this.ring = ring;
            this.from = from;
            this.to = to;
            this.level = level;
        }

        boolean holdsFor(Artefact artefact) {
            if (level == OF_ALL) {
                return true;
            }
            return !artefact.isHotfix && (level == OF_NO_HOTFIX || artefact.isCode);
        }
    }

    private static final class Train {
        final int minute;
        /** How many releases it has taken, NONE as long as it has not left. */
        int taken = NONE;

        Train(int minute) {
            this.minute = minute;
        }
    }

    private static final class Flag {
        final List<Rule> rules = new ArrayList<>();
        int percentage;
        int needs = NONE;
        boolean isKilled;
        int askedAt;
    }

    private static final class Rule {
        static final int OFF = 0;
        static final int ON = 1;

        final int attribute;
        final boolean isLeast;
        final int number;
        /** OFF, ON, or a percentage from 2 on. */
        final int outcome;

        Rule(int attribute, boolean isLeast, int number, int outcome) {
            this.attribute = attribute;
            this.isLeast = isLeast;
            this.number = number;
            this.outcome = outcome;
        }

        boolean meets(int value) {
            return isLeast ? value >= number : value == number;
        }
    }

    private static final class Experiment {
        final int layer;
        final int flag;
        final int from;
        final int to;
        final int arms;
        boolean hasEnded;

        Experiment(int layer, int flag, int from, int to, int arms) {
            this.layer = layer;
            this.flag = flag;
            this.from = from;
            this.to = to;
            this.arms = arms;
        }

        int armOf(int seat) {
            return arms > 0 ? (seat - from) % arms : NONE;
        }
    }
}
