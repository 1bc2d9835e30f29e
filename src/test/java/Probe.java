/**
 * What an object answers to calls of every kind, as one text: two objects in the same state give the
 * same text. Some of the calls change the object, which is of no use then.
 */
final class Probe {
    private static final int NONE = ReleaseHouse.NONE;

    interface Ask {
        Object answer();
    }

    private final ReleaseHouse house;
    private final StringBuilder text = new StringBuilder();

    private Probe(ReleaseHouse house) {
        this.house = house;
    }

    static String of(ReleaseHouse house) {
        Probe probe = new Probe(house);
        probe.readRings();
        probe.readData();
        probe.readReleases();
        probe.changeHolds();
        probe.changeFlags();
        probe.changeReleases();
        probe.changeData();
        probe.letTimeGoBy();
        return probe.text.toString();
    }

    private void ask(Ask ask) {
        try {
            text.append(ask.answer());
        } catch (RuntimeException thrown) {
            text.append(thrown.getClass().getSimpleName());
        }
        text.append(' ');
    }

    private void readRings() {
        for (int cell = 0; cell < 12; cell++) {
            int service = cell / 3;
            int ring = cell % 3;
            ask(() -> house.stable(service, ring));
            ask(() -> house.candidate(service, ring));
            ask(() -> house.share(service, ring));
        }
        for (int ring = 0; ring < 3; ring++) {
            int r = ring;
            ask(() -> house.left(r));
            ask(() -> house.capital(0, r));
            ask(() -> house.verdict(0, r));
            ask(() -> house.badPart(0, r, true));
            ask(() -> house.badPart(0, r, false));
            ask(() -> house.sees(0, r));
        }
        ask(house::isDead);
        ask(house::effects);
        ask(house::stale);
    }

    private void readData() {
        for (int schema = 0; schema < 8; schema++) {
            int s = schema;
            ask(() -> house.units(0, s));
            ask(() -> house.units(3, s));
        }
    }

    private void readReleases() {
        for (int i = 0; i < 4; i++) {
            int number = i;
            ask(() -> house.isLive(number));
            ask(() -> house.mayGo(number));
            ask(() -> house.taken(number));
        }
        for (int i = 0; i < 20; i += i < 3 ? 1 : 16) {
            int release = i;
            ask(() -> house.state(release));
            ask(() -> house.at(release));
            ask(() -> house.why(release));
        }
    }

    private void changeHolds() {
        for (int i = 0; i < 3; i++) {
            int ring = i;
            ask(() -> house.hold(ring));
            ask(() -> house.hold(ring));
            ask(() -> house.surge(ring, 8));
            ask(() -> house.zone(ring, 0));
            ask(() -> house.zone(ring, ring));
        }
        ask(() -> house.freeze(2, 0, 0, 1));
        ask(() -> house.train(20000));
        ask(() -> house.board(0, 0));
        ask(() -> house.board(1, 0));
    }

    private void changeFlags() {
        for (int i = 0; i < 8; i++) {
            int flag = i;
            ask(() -> house.isOn(flag, 0));
            ask(() -> house.isOn(flag, 199));
            ask(() -> house.target(flag, 2, false, 0, 1));
            ask(() -> house.isOn(flag, 0));
            ask(() -> house.kill(flag));
        }
        ask(() -> house.arm(0, 0));
        ask(() -> {
            house.conclude(0);
            return "concluded";
        });
        ask(() -> house.experiment(0, 0, 0, 99, 2));
    }

    private void changeReleases() {
        ask(() -> house.artefact(0, 0, 255, 0, NONE, 255, 0, false, true));
        ask(house::program);
        ask(() -> house.step(0, 1, 0, 0));
        ask(() -> house.step(1, 1, 0, 0));
        ask(() -> house.begin(0, 0));
        ask(() -> house.begin(0, 10));
        ask(() -> house.end(0, 0));
        for (int i = 0; i < 2; i++) {
            int release = i;
            ask(() -> house.approve(release, 4));
            ask(() -> house.approve(release, 5));
            ask(() -> house.except(release, 5));
        }
        ask(() -> house.measure(0, 0, true, true, 1));
        ask(() -> house.measure(0, 0, false, true, 1));
        ask(() -> house.release(0, 0));
        ask(() -> house.release(1, 0));
    }

    private void changeData() {
        for (int schema = 0; schema < 8; schema++) {
            int s = schema;
            ask(() -> {
                house.contract(3, s);
                return "closed";
            });
            ask(() -> {
                house.expand(0, s);
                return "opened";
            });
        }
        ask(() -> house.halt(0));
        ask(() -> house.halt(3));
    }

    private void letTimeGoBy() {
        ask(() -> house.pass(1));
        ask(() -> house.isDead());
        ask(house::rise);
        ask(() -> {
            house.die(false);
            return "told";
        });
        ask(() -> house.pass(2));
        ask(house::effects);
        readData();
        ask(() -> house.stop(0));
        ask(() -> house.stop(1));
    }
}
