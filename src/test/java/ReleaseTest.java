/** Promises 7 to 14: programs and releases. */
public final class ReleaseTest {
    public static void main(String[] args) {
        program();
        step();
        release();
        approve();
        stop();
        stopGoesBack();
        stopIsStuckByProof();
        stopByRings();
        stopIsStuckByData();
        state();
        at();
        why();
        whyOrder();
        whyRival();
        whyFromNowOn();
        whyEnded();
        skipLosesCandidates();
        Check.finish();
    }

    private static void program() {
        ReleaseHouse house = new ReleaseHouse();
        for (int i = 0; i < 6; i++) {
            Check.same("7: its number", house.program(), i);
        }
        Check.badState("7: there are 6", house::program);
        Check.same("7: without steps", house.step(5, 1, 0, 0), 1);
    }

    private static void step() {
        ReleaseHouse house = new ReleaseHouse();
        int program = house.program();
        int[][] wrong = {
            {-1, 0, 1}, {7, 0, 1}, {0, -1, 1}, {0, 3, 1}, {0, 0, 0}, {0, 0, 101}, {1, -1, 0}, {1, 1001, 0},
            {2, -1, 0}, {2, 3, 0}, {3, -1, 0}, {3, 6, 0}, {4, -1, 0}, {4, 3, 0}, {6, -1, 0}, {6, 3, 0},
        };
        for (int[] s : wrong) {
            Check.badArgument("8: out of range " + java.util.Arrays.toString(s),
                    () -> house.step(program, s[0], s[1], s[2]));
        }
        int[][] right = {
            {0, 0, 1}, {0, 2, 100}, {1, 0, -5}, {1, 1000, 500}, {2, 2, 0}, {3, 0, -1}, {3, 5, 101}, {4, 2, 0},
            {5, -7, 999}, {6, 2, -1},
        };
        for (int i = 0; i < right.length; i++) {
            Check.same("8: how many steps", house.step(program, right[i][0], right[i][1], right[i][2]), i + 1);
        }
        Check.badState("8: it has 10", () -> house.step(program, 1, 0, 0));
        Check.badArgument("8: the argument goes first", () -> house.step(program, 1, 1001, 0));
        Check.noSuch("8: no such program", () -> house.step(1, 9, 9, 9));
        Check.noSuch("8: below 0", () -> house.step(-1, 1, 0, 0));
        int other = Given.program(house, Given.await(0));
        int release = house.release(Given.easy(house, 0), other);
        Check.badState("8: a release is by it", () -> house.step(other, 1, 0, 0));
        house.stop(release);
        Check.badState("8: one that has ended too", () -> house.step(other, 1, 0, 0));
    }

    private static void release() {
        ReleaseHouse house = new ReleaseHouse();
        int artefact = Given.easy(house, 0);
        int empty = house.program();
        Check.badState("9: no steps", () -> house.release(artefact, empty));
        Check.noSuch("9: no such artefact", () -> house.release(1, empty));
        Check.noSuch("9: no such program", () -> house.release(artefact, 1));
        Check.noSuch("9: below 0", () -> house.release(-1, -1));
        int program = Given.program(house, Given.await(1000));
        for (int i = 0; i < 20; i++) {
            Check.same("9: its number", house.release(artefact, program), i);
            Check.badState("9: it has one that has not ended", () -> house.release(artefact, program));
            Check.same("9: runs", house.state(i), 0);
            Check.same("9: from the first step", house.at(i), 0);
            house.stop(i);
        }
        Check.badState("9: there are 20", () -> house.release(artefact, program));
    }

    private static void approve() {
        ReleaseHouse house = new ReleaseHouse();
        int artefact = house.artefact(0, 3, 0, 0, Given.NONE, 1, 0, false, true);
        int program = Given.program(house, Given.approvals(2), Given.await(1000));
        house.release(artefact, program);
        Check.same("10: one", house.approve(0, 0), 1);
        Check.badState("10: has approved it", () -> house.approve(0, 0));
        Check.badState("10: its author", () -> house.approve(0, 3));
        Check.badArgument("10: no such person", () -> house.approve(0, 6));
        Check.badArgument("10: below 0", () -> house.approve(0, -1));
        Check.noSuch("10: no such release", () -> house.approve(1, 6));
        Check.same("10: one is not enough", house.pass(1), 0);
        Check.same("10: two", house.approve(0, 5), 2);
        Check.same("10: two are", house.pass(1), 1);
        Check.same("10: behind the step too", house.approve(0, 1), 3);
        house.stop(0);
        Check.badState("10: it has ended", () -> house.approve(0, 2));
    }

    private static void stop() {
        ReleaseHouse house = new ReleaseHouse();
        int artefact = Given.easy(house, 0);
        int program = Given.program(house, Given.share(1, 40), Given.share(0, 20), Given.promote(0), Given.await(99));
        house.release(artefact, program);
        house.pass(2);
        Check.same("11: nothing promoted", house.stop(0), 0);
        Check.same("11: loses its candidate", house.candidate(0, 0), Given.NONE);
        Check.same("11: and the other one", house.candidate(0, 1), Given.NONE);
        Check.same("11: each is an effect", house.effects(), 4);
        Check.badState("11: it has ended", () -> house.stop(0));
        Check.noSuch("11: no such release", () -> house.stop(1));
        house.release(artefact, program);
        house.pass(3);
        Check.same("11: no stable one ahead: stuck", house.stop(1), 1);
        Check.same("11: nothing changes there", house.stable(0, 0), artefact);
        Check.same("11: the candidate is lost", house.candidate(0, 1), Given.NONE);
        house.release(artefact, program);
        house.pass(3);
        Check.same("11: promoted without an effect", house.stop(2), 0);
    }

    private static void stopGoesBack() {
        ReleaseHouse house = new ReleaseHouse();
        int both = Given.program(house, Given.promote(0), Given.promote(1), Given.await(99));
        int sharing = Given.program(house, Given.share(0, 30));
        int old = Given.easy(house, 0);
        house.release(old, both);
        house.pass(3);
        int middle = Given.easy(house, 0);
        int next = Given.easy(house, 0);
        int release = house.release(middle, both);
        house.pass(2);
        house.release(next, sharing);
        house.pass(1);
        int other = house.release(Given.easy(house, 0), Given.program(house, Given.promote(1), Given.await(99)));
        house.pass(1);
        int ahead = house.effects();
        Check.same("11: goes back", house.stop(release), 0);
        Check.same("11: stable again", house.stable(0, 0), old);
        Check.same("11: a candidate there stays", house.candidate(0, 0), next);
        Check.same("11: another one is stable there", house.stable(0, 1), 3);
        Check.same("11: one effect", house.effects(), ahead + 1);
        Check.same("11: not stuck", house.stop(other), 0);
        Check.same("11: to the one ahead, be its release stopped", house.stable(0, 1), middle);
    }

    private static void stopIsStuckByProof() {
        ReleaseHouse house = new ReleaseHouse();
        int promoting = Given.program(house, Given.promote(0), Given.await(99));
        int inTwo = Given.program(house, Given.promote(0), Given.promote(1), Given.await(99));
        house.release(house.artefact(0, 0, 1, 0, Given.NONE, 1, 0, false, true), promoting);
        house.pass(1);
        int middle = house.release(house.artefact(0, 0, 3, 0, Given.NONE, 1, 0, false, true), inTwo);
        house.pass(2);
        int needy = house.release(house.artefact(1, 0, 0, 2, 0, 1, 0, false, true), Given.program(house,
                Given.share(2, 100), Given.await(99)));
        house.pass(1);
        Check.same("11: stuck by the proof, and for want of one ahead", house.stop(middle), 2);
        Check.same("11: nothing changes in ring 0", house.stable(0, 0), 1);
        Check.same("11: nothing changes in ring 1", house.stable(0, 1), 1);
        house.release(house.artefact(0, 0, 3, 0, Given.NONE, 1, 0, false, true), inTwo);
        house.pass(2);
        house.stop(needy);
        Check.same("11: goes back to the one that it met", house.stop(3), 0);
        Check.same("11: in ring 0", house.stable(0, 0), 1);
        Check.same("11: in ring 1", house.stable(0, 1), 1);
        Check.same("11: no pair is forbidden", house.forbidden(), 0);
    }

    private static void stopByRings() {
        ReleaseHouse house = new ReleaseHouse();
        int promoting = Given.program(house, Given.promote(0), Given.await(99));
        int inTwo = Given.program(house, Given.promote(0), Given.promote(1), Given.await(99));
        house.release(Given.easy(house, 0), promoting);
        house.pass(1);
        int release = house.release(Given.easy(house, 0), inTwo);
        house.pass(2);
        Check.same("11: the ring 0 goes back, the ring 1 is stuck", house.stop(release), 1);
        Check.same("11: ring 0", house.stable(0, 0), 0);
        Check.same("11: ring 1", house.stable(0, 1), 1);
    }

    private static void stopIsStuckByData() {
        for (int way = 0; way < 4; way++) {
            ReleaseHouse house = new ReleaseHouse();
            house.expand(0, 1);
            int promoting = Given.program(house, Given.promote(0), Given.await(99));
            int old = Given.withData(house, 0, 3, 0);
            house.release(old, promoting);
            house.pass(1);
            int release = house.release(Given.withData(house, 0, 255, 1), promoting);
            house.pass(1);
            house.expand(0, 2);
            if (way == 1) {
                house.migrate(0, 7, 2);
            } else if (way == 2) {
                house.migrate(0, 0, 2);
                house.pass(1);
                house.halt(0);
            } else if (way == 3) {
                house.migrate(0, 0, 1);
                house.pass(1);
                house.halt(0);
                house.contract(0, 0);
            }
            Check.same("11: stuck by data, way " + way, house.stop(release), way == 0 ? 0 : 1);
            Check.same("11: stable, way " + way, house.stable(0, 0), way == 0 ? 0 : 1);
        }
    }

    private static void state() {
        ReleaseHouse house = new ReleaseHouse();
        int sharing = Given.program(house, Given.share(0, 10), Given.await(1));
        int promoting = Given.program(house, Given.promote(0), Given.await(0));
        house.release(Given.easy(house, 0), sharing);
        house.pass(1);
        Check.same("12: running", house.state(0), 0);
        house.release(Given.hotfix(house, 0), promoting);
        house.pass(1);
        Check.same("12: overtaken", house.state(0), 1);
        Check.same("12: the hotfix runs", house.state(1), 0);
        house.pass(1);
        Check.same("12: the hotfix is done", house.state(1), 2);
        Check.same("12: runs again, and is skipped", house.state(0), 4);
        house.release(Given.easy(house, 0), sharing);
        house.stop(2);
        Check.same("12: stopped", house.state(2), 3);
        Check.noSuch("12: no such release", () -> house.state(3));
        Check.noSuch("12: below 0", () -> house.state(-1));
    }

    private static void at() {
        ReleaseHouse house = new ReleaseHouse();
        int program = Given.program(house, Given.await(0), Given.share(0, 10), Given.await(2));
        house.release(Given.easy(house, 0), program);
        int[] due = {1, 2, 2, 3, 3};
        Check.same("13: the first one", house.at(0), 0);
        for (int i = 0; i < due.length; i++) {
            house.pass(1);
            Check.same("13: behind the minute " + (i + 1), house.at(0), due[i]);
        }
        house.release(Given.easy(house, 0), program);
        house.pass(1);
        house.stop(1);
        Check.same("13: where it was stopped", house.at(1), 1);
        Check.noSuch("13: no such release", () -> house.at(2));
        Check.noSuch("13: below 0", () -> house.at(-1));
    }

    private static void why() {
        ReleaseHouse house = new ReleaseHouse();
        int program = Given.program(house, Given.await(1), Given.judge(1), Given.await(0));
        house.release(Given.easy(house, 0), program);
        Check.same("14: waits", house.why(0), 8);
        house.pass(1);
        Check.same("14: its artefact is not the candidate", house.why(0), 9);
        house.release(Given.easy(house, 0),
                Given.program(house, Given.approvals(1), Given.byTrain(), Given.promote(2)));
        Check.same("14: nobody has approved it", house.why(1), 10);
        house.approve(1, 1);
        Check.same("14: somebody has", house.why(1), 0);
        house.pass(1);
        Check.same("14: no train", house.why(1), 11);
        house.train(4);
        house.board(0, 1);
        house.pass(1);
        Check.same("14: the train is to come", house.why(1), 11);
        house.pass(1);
        Check.same("14: the train has taken it", house.why(1), 0);
        Check.noSuch("14: no such release", () -> house.why(2));
        Check.noSuch("14: below 0", () -> house.why(-1));
    }

    /** Each reason stands in the way in turn, the later ones behind it. */
    private static void whyOrder() {
        ReleaseHouse house = new ReleaseHouse();
        int sharing = Given.program(house, Given.share(0, 60), Given.await(99));
        house.release(Given.withData(house, 0, 1, 0), sharing);
        house.pass(1);
        int zone = 0;
        for (; zone < 3; zone++) {
            house.zone(0, zone);
        }
        int promoting = Given.program(house, Given.promote(0));
        house.release(Given.withData(house, 0, 4, 2), promoting);
        house.hold(0);
        house.freeze(0, 0, 5, 1);
        Check.same("14: held", house.why(1), 2);
        house.hold(0);
        Check.same("14: frozen", house.why(1), 3);
        house.except(1, 1);
        Check.same("14: another one is the candidate", house.why(1), 4);
        house.stop(0);
        Check.same("14: no capacity", house.why(1), 5);
        house.zone(0, 0);
        Check.same("14: the data", house.why(1), 7);
        house.expand(0, 2);
        Check.same("14: goes on", house.why(1), 0);
        house.die(false);
        house.pass(1);
        Check.same("14: dead", house.why(1), 13);
        house.stop(1);
        Check.same("14: ended goes ahead of dead", house.why(1), 14);
        house.rise();
        house.release(Given.withData(house, 0, 1, 0), promoting);
        house.except(2, 1);
        house.pass(1);
        house.release(Given.withData(house, 0, 10, 3), promoting);
        house.except(3, 1);
        Check.same("14: the proof goes ahead of the data", house.why(3), 6);
    }

    private static void whyRival() {
        ReleaseHouse house = new ReleaseHouse();
        int sharing = Given.program(house, Given.share(0, 60), Given.await(2));
        house.release(Given.hotfix(house, 0), sharing);
        house.pass(1);
        house.release(Given.hotfix(house, 0), sharing);
        Check.same("14: a hotfix does not overtake a hotfix", house.why(1), 4);
        house.release(Given.easy(house, 0), sharing);
        Check.same("14: nor does another one", house.why(2), 4);
        house.release(Given.easy(house, 1), sharing);
        Check.same("14: another service", house.why(3), 0);
        house.hold(0);
        house.pass(2);
        house.hold(0);
        Check.same("14: the release of the candidate is done", house.state(0), 2);
        Check.same("14: it is still the candidate", house.candidate(0, 0), 0);
        Check.same("14: which is in nobody's way", house.why(2), 0);
        house.release(0, sharing);
        Check.same("14: unless it is released anew", house.why(2), 4);
    }

    private static void whyFromNowOn() {
        ReleaseHouse house = new ReleaseHouse();
        int drain = Given.program(house, Given.drain(0), Given.await(0));
        int promoting = Given.program(house, Given.promote(0));
        Given.stable(house, 0, promoting);
        house.begin(0, 10);
        house.release(0, drain);
        Check.same("14: the session is with the stable one", house.why(1), 0);
        int next = Given.stable(house, 0, promoting);
        house.release(next, drain);
        Check.same("14: another one is stable", house.why(3), 12);
        house.end(0, 10);
        Check.same("14: no session", house.why(3), 0);
        house.begin(0, 10);
        Check.same("14: one with the stable one", house.why(3), 0);
        int canary = house.release(Given.easy(house, 1), Given.program(house, Given.share(0, 100), Given.drain(0)));
        house.pass(1);
        house.begin(1, 20);
        Check.same("14: each, if there is no stable one", house.why(canary), 12);
        int overtaking = house.release(Given.hotfix(house, 1), Given.program(house, Given.share(0, 1), Given.await(9)));
        house.pass(1);
        Check.same("14: overtaken", house.why(canary), 1);
        Check.same("14: the other one is not", house.why(overtaking), 8);
        house.die(true);
        house.pass(9);
        Check.same("14: dead goes ahead of overtaken", house.why(canary), 13);
    }

    private static void whyEnded() {
        ReleaseHouse house = new ReleaseHouse();
        house.release(Given.easy(house, 0), Given.program(house, Given.promote(0)));
        house.pass(1);
        Check.same("14: done", house.why(0), 14);
        int old = Given.easy(house, 1);
        Given.stable(house, 1, 0);
        house.release(old, 0);
        Check.same("14: goes on to be skipped", house.why(2), 0);
        house.hold(1);
        Check.same("14: held or not", house.why(2), 0);
        house.pass(1);
        Check.same("14: skipped", house.why(2), 14);
    }

    private static void skipLosesCandidates() {
        ReleaseHouse house = new ReleaseHouse();
        int old = Given.easy(house, 0);
        Given.stable(house, 0, Given.program(house, Given.promote(2)));
        house.release(old, Given.program(house, Given.share(0, 10), Given.promote(1), Given.share(0, 20),
                Given.share(2, 10)));
        house.pass(3);
        Check.same("21: a candidate", house.candidate(0, 0), old);
        int ahead = house.effects();
        house.pass(1);
        Check.same("12: a newer one is stable there", house.state(1), 4);
        Check.same("13: where it was", house.at(1), 3);
        Check.same("21: lost by the skip", house.candidate(0, 0), Given.NONE);
        Check.same("20: what it promoted stays", house.stable(0, 1), old);
        Check.same("19: an effect", house.effects(), ahead + 1);
    }
}
