/** Promises 15 to 19, sentence by sentence: the edges that the document names. */
public final class ControllerEdgesTest {
    private static final int NONE = ReleaseHouse.NONE;

    public static void main(String[] args) {
        pass();
        passNotes();
        order();
        turns();
        overtaking();
        die();
        dieAtKinds();
        rise();
        effects();
        effectsOfLosing();
        Check.finish();
    }

    private static void pass() {
        Check.test("15: minutes: 1 to 200", () -> Refusal.range(ReleaseHouse::new, 1, 200, ReleaseHouse::pass));
        Check.test("15: throws if more than 20000 would have gone by", () -> {
            Refusal.badState("one more", () -> Given.atMinute(20000), house -> house.pass(1));
            Refusal.badState("the last 200 and one more", () -> Given.atMinute(19801), house -> house.pass(200));
            Check.same("the last 200", Given.atMinute(19800).pass(200), 0);
            Check.same("the last one", Given.atMinute(19999).pass(1), 0);
        });
        Check.test("15: of several exceptions it is the first one", () -> {
            Refusal.badArgument("argument and state", () -> Given.atMinute(20000), house -> house.pass(201));
            Refusal.badArgument("below 0 and state", () -> Given.atMinute(20000), house -> house.pass(0));
        });
        Check.test("15: the last minute is one like another", () -> {
            ReleaseHouse house = Given.atMinute(19999);
            int release = Given.released(house, 0, Given.promote(0));
            house.train(20000);
            Check.same("a step", house.pass(1), 1);
            Check.same("done", house.state(release), 2);
            Check.same("the train", house.taken(0), 0);
        });
        Check.test("15: many minutes at once are as many one by one", () -> {
            ReleaseHouse house = new ReleaseHouse();
            ReleaseHouse other = new ReleaseHouse();
            for (ReleaseHouse h : new ReleaseHouse[] {house, other}) {
                Given.released(h, 0, Given.share(0, 5), Given.await(7), Given.promote(0), Given.await(100));
                Given.released(h, 1, Given.byTrain(), Given.promote(1));
                h.train(20);
                h.board(0, 1);
            }
            int noted = 0;
            for (int i = 0; i < 150; i++) {
                noted += other.pass(1);
            }
            Check.same("noted", house.pass(150), noted);
            Check.same("all of it", Probe.of(house), Probe.of(other));
        });
    }

    private static void passNotes() {
        Check.test("15: how many steps are noted in them: none", () -> {
            Check.same("no release", new ReleaseHouse().pass(200), 0);
            ReleaseHouse house = new ReleaseHouse();
            Given.released(house, 0, Given.approvals(1));
            Check.same("one that does not go on", house.pass(200), 0);
        });
        Check.test("15: a release does one step a minute at most", () -> {
            ReleaseHouse house = new ReleaseHouse();
            int release = Given.released(house, 0, Given.await(0), Given.share(0, 5),
                    Given.approvals(0), Given.promote(0));
            for (int i = 1; i <= 4; i++) {
                Check.same("one", house.pass(1), 1);
                Check.same("at", house.at(release), i);
            }
            Check.same("no more", house.pass(1), 0);
        });
        Check.test("15: steps without an effect are noted too", () -> {
            ReleaseHouse house = new ReleaseHouse();
            Given.released(house, 0, Given.promote(0), Given.promote(0), Given.share(0, 9), Given.drain(0));
            Check.same("four", house.pass(4), 4);
        });
        Check.test("15: skips by the controller included", () -> {
            ReleaseHouse house = new ReleaseHouse();
            int older = Given.easy(house, 0);
            Given.stable(house, 0, Given.program(house, Given.promote(0)));
            house.release(older, 0);
            Check.same("one", house.pass(5), 1);
        });
        Check.test("15: stops by the controller included", () -> {
            ReleaseHouse house = withBadCanary();
            Check.same("one", house.pass(5), 1);
        });
        Check.test("15: stops by a call are none", () -> {
            ReleaseHouse house = withBadCanary();
            house.stop(1);
            Check.same("none", house.pass(5), 0);
        });
    }

    /** The release 1 is at a JUDGE of the ring 0, where the verdict is bad. */
    private static ReleaseHouse withBadCanary() {
        ReleaseHouse house = new ReleaseHouse();
        Given.stable(house, 0, Given.program(house, Given.promote(0)));
        Given.released(house, 0, Given.share(0, 50), Given.judge(0));
        house.pass(1);
        Given.measures(house, 8, true, true, 1);
        Given.measures(house, 8, false, false, 1);
        return house;
    }

    private static void order() {
        Check.test("15: it is one minute later, ahead of the controller", () -> {
            ReleaseHouse house = new ReleaseHouse();
            int release = Given.released(house, 0, Given.await(1));
            house.freeze(0, 1, 1, 3);
            int frozen = Given.released(house, 1, Given.share(0, 5));
            Check.same("one of two", house.pass(1), 1);
            Check.same("it has waited", house.state(release), 2);
            Check.same("it is frozen", house.at(frozen), 0);
        });
        Check.test("15: the data come ahead of the controller", () -> {
            ReleaseHouse house = new ReleaseHouse();
            Given.released(house, 0, Given.promote(0));
            house.pass(1);
            Check.same("nothing in its first minute", house.units(0, 0), 0);
            house.pass(1);
            Check.same("a unit in the next one", house.units(0, 0), 1);
        });
        Check.test("15: what the data have become counts for the controller in that minute", () -> {
            for (int units = 5; units <= 6; units++) {
                ReleaseHouse house = new ReleaseHouse();
                house.expand(0, 1);
                house.release(Given.withData(house, 0, 3, 1), Given.program(house, Given.share(0, 5), Given.await(99)));
                house.pass(1 + units);
                house.stop(0);
                int blind = house.release(Given.withData(house, 0, 1, 0), Given.program(house, Given.promote(0)));
                house.migrate(0, 1, 0);
                Check.same("it does not read them", house.why(blind), 7);
                house.pass(1);
                Check.same(units + " units, of which 5 are migrated", house.state(blind), units == 5 ? 2 : 0);
            }
        });
        Check.test("15: the trains come ahead of the controller", () -> {
            ReleaseHouse house = new ReleaseHouse();
            int release = Given.released(house, 0, Given.byTrain());
            house.train(1);
            house.board(0, release);
            Check.same("it goes on in that minute", house.pass(1), 1);
        });
        Check.test("15: one that comes to a TRAIN step in that minute is late", () -> {
            ReleaseHouse house = new ReleaseHouse();
            int release = Given.released(house, 0, Given.await(0), Given.byTrain());
            house.train(1);
            house.board(0, release);
            house.pass(1);
            Check.same("not taken", house.taken(0), 0);
        });
        Check.test("15: the controller, if it is alive; the rest goes on", () -> {
            ReleaseHouse house = new ReleaseHouse();
            Given.released(house, 0, Given.promote(0), Given.await(99));
            int boarding = Given.released(house, 1, Given.byTrain());
            house.die(true);
            house.pass(1);
            house.train(2);
            house.board(0, boarding);
            Check.same("no step", house.pass(1), 0);
            Check.same("data", house.units(0, 0), 1);
            Check.same("trains", house.taken(0), 1);
        });
    }

    private static void turns() {
        Check.test("15: those of hotfixes first", () -> {
            ReleaseHouse house = new ReleaseHouse();
            int normal = Given.released(house, 0, Given.promote(0));
            int hotfix = house.release(Given.hotfix(house, 0), 0);
            house.pass(1);
            Check.same("it is stable", house.state(hotfix), 2);
            Check.same("the other one comes behind it", house.state(normal), 4);
        });
        Check.test("15: each group by numbers", () -> {
            for (int way = 0; way < 2; way++) {
                ReleaseHouse house = new ReleaseHouse();
                int program = Given.program(house, Given.promote(0));
                for (int i = 0; i < 2; i++) {
                    house.artefact(0, 0, 0, 0, NONE, 1, 0, way == 1, true);
                }
                house.release(1, program);
                house.release(0, program);
                house.pass(1);
                Check.same("the first release is done", house.state(0), 2);
                Check.same("the second one comes behind it, though its artefact is older", house.state(1), 4);
            }
        });
        Check.test("15: as they are when it is their turn: one that is overtaken", () -> {
            ReleaseHouse house = new ReleaseHouse();
            int normal = Given.released(house, 0, Given.share(0, 5), Given.await(0), Given.await(0));
            house.pass(1);
            house.release(Given.hotfix(house, 0), Given.program(house, Given.share(0, 5), Given.await(99)));
            Check.same("one step", house.pass(1), 1);
            Check.same("it does nothing", house.at(normal), 1);
        });
        Check.test("15: as they are when it is their turn: one that runs again", () -> {
            ReleaseHouse house = new ReleaseHouse();
            int normal = Given.released(house, 0, Given.await(0), Given.share(0, 5), Given.await(99));
            house.pass(2);
            house.release(Given.hotfix(house, 0), Given.program(house, Given.share(0, 5), Given.await(0)));
            house.pass(1);
            Check.same("overtaken", house.state(normal), 1);
            Check.same("both do a step", house.pass(1), 2);
            Check.same("behind its first one", house.at(normal), 1);
        });
        Check.test("15: as they are when it is their turn: one whose rival has just ended", () -> {
            ReleaseHouse house = new ReleaseHouse();
            Given.released(house, 0, Given.share(0, 5), Given.await(2));
            house.pass(1);
            int next = Given.released(house, 0, Given.share(0, 6));
            house.pass(1);
            Check.same("the rival waits", house.at(next), 0);
            Check.same("both do a step", house.pass(1), 2);
        });
    }

    private static void overtaking() {
        Check.test("15: when a release is overtaken, it loses its candidates, in all rings", () -> {
            ReleaseHouse house = new ReleaseHouse();
            Given.released(house, 0, Given.share(0, 5), Given.share(1, 5), Given.share(2, 5), Given.await(99));
            house.pass(3);
            int hotfix = house.release(Given.hotfix(house, 0),
                    Given.program(house, Given.share(1, 9), Given.await(99)));
            house.pass(1);
            Check.same("overtaken", house.state(0), 1);
            Check.same("lost in the ring 0", house.candidate(0, 0), NONE);
            Check.same("in the ring 1 it is the other one", house.candidate(0, 1), hotfix);
            Check.same("lost in the ring 2", house.candidate(0, 2), NONE);
            Check.same("its share", house.share(0, 1), 9);
        });
        Check.test("15: by PROMOTE too, without a candidate there", () -> {
            ReleaseHouse house = new ReleaseHouse();
            Given.released(house, 0, Given.share(0, 5), Given.share(1, 5), Given.await(99));
            house.pass(2);
            int hotfix = house.release(Given.hotfix(house, 0), Given.program(house, Given.promote(0), Given.await(9)));
            house.pass(1);
            Check.same("overtaken", house.state(0), 1);
            Check.same("stable", house.stable(0, 0), hotfix);
            Check.same("no candidate", house.candidate(0, 0), NONE);
            Check.same("nor in the other ring", house.candidate(0, 1), NONE);
        });
        Check.test("15: with their approvals", () -> {
            ReleaseHouse house = new ReleaseHouse();
            int normal = Given.released(house, 0, Given.approvals(2), Given.share(0, 5), Given.await(99));
            house.approve(normal, 1);
            house.approve(normal, 2);
            house.pass(2);
            int hotfix = house.release(Given.hotfix(house, 0),
                    Given.program(house, Given.share(0, 5), Given.await(99)));
            house.pass(1);
            house.stop(hotfix);
            Check.same("from its first step on", house.at(normal), 0);
            Check.same("approved", house.why(normal), 0);
            Check.same("another one", house.approve(normal, 3), 3);
        });
        Check.test("15: all overtaken releases of that service", () -> {
            ReleaseHouse house = new ReleaseHouse();
            int inThis = Given.released(house, 0, Given.share(0, 5), Given.await(99));
            int inThat = Given.released(house, 0, Given.share(1, 5), Given.await(99));
            house.pass(1);
            int both = house.release(Given.hotfix(house, 0),
                    Given.program(house, Given.share(0, 5), Given.share(1, 5), Given.await(99)));
            int other = house.release(Given.hotfix(house, 0), Given.program(house, Given.await(3)));
            house.pass(2);
            Check.same("two are", house.state(inThis) + house.state(inThat), 2);
            house.stop(other);
            Check.same("be it another hotfix that has ended", house.state(inThis) + house.state(inThat), 0);
            Check.same("the one that overtook runs", house.state(both), 0);
        });
    }

    /** The controller is dead; the release 0 was about to be done. */
    private static ReleaseHouse withDead(boolean isBehind) {
        ReleaseHouse house = new ReleaseHouse();
        Given.released(house, 0, Given.promote(0));
        Given.released(house, 1, Given.promote(0));
        house.die(isBehind);
        Check.same("nothing is noted", house.pass(1), 0);
        return house;
    }

    private static void die() {
        Check.test("16: throws if it is dead", () -> {
            Refusal.badState("ahead", () -> withDead(false), house -> house.die(false));
            Refusal.badState("behind", () -> withDead(true), house -> house.die(true));
        });
        Check.test("16: or when it has been told so, to die otherwise", () -> {
            for (int way = 0; way < 2; way++) {
                ReleaseHouse house = new ReleaseHouse();
                Given.released(house, 0, Given.promote(0));
                house.die(way == 0);
                house.die(way == 1);
                house.pass(1);
                Check.same("effects", house.effects(), way);
            }
        });
        Check.test("16: it dies at the next step that goes on", () -> {
            ReleaseHouse house = new ReleaseHouse();
            int waiting = Given.released(house, 0, Given.await(3));
            house.die(false);
            house.pass(2);
            Check.no("no step went on", house.isDead());
            house.pass(1);
            Check.yes("one would have", house.isDead());
            Check.same("it has not", house.at(waiting), 0);
        });
        Check.test("16: or the same way once more", () -> {
            ReleaseHouse house = new ReleaseHouse();
            Given.released(house, 0, Given.promote(0));
            house.die(true);
            house.die(true);
            house.pass(1);
            Check.same("effects", house.effects(), 1);
        });
        Check.test("16: ahead of the effect", () -> {
            ReleaseHouse house = withDead(false);
            Check.same("none", house.effects(), 0);
            Check.same("at its step", house.at(0), 0);
            Check.same("nothing is stable", house.stable(0, 0), NONE);
        });
        Check.test("16: or behind the effect, but ahead of noting", () -> {
            ReleaseHouse house = withDead(true);
            Check.same("one", house.effects(), 1);
            Check.same("at its step", house.at(0), 0);
            Check.same("running", house.state(0), 0);
            Check.same("stable", house.stable(0, 0), 0);
        });
        Check.test("16: it does nothing more", () -> {
            ReleaseHouse house = withDead(true);
            Check.same("in that minute", house.stable(1, 0), NONE);
            Check.same("nor in others", house.pass(200), 0);
            Check.same("no effect", house.effects(), 1);
        });
        Check.test("16: the next one goes by what is noted", () -> {
            for (int way = 0; way < 2; way++) {
                ReleaseHouse house = withDead(way == 1);
                house.rise();
                Check.same("both are noted", house.pass(1), 2);
                Check.same("each effect once", house.effects(), 2);
                Check.same("done", house.state(0), 2);
            }
        });
    }

    private static void dieAtKinds() {
        Check.test("16: at each kind of step that goes on", () -> {
            int[][] kinds = {Given.share(0, 5), Given.await(0), Given.approvals(0), Given.promote(0), Given.drain(0)};
            for (int[] kind : kinds) {
                for (int way = 0; way < 2; way++) {
                    ReleaseHouse house = new ReleaseHouse();
                    int release = Given.released(house, 0, kind);
                    house.die(way == 1);
                    house.pass(1);
                    Check.yes("dead at the kind " + kind[0], house.isDead());
                    Check.same("not noted", house.state(release), 0);
                }
            }
        });
        Check.test("16: at a TRAIN step, which it is still taken for", () -> {
            ReleaseHouse house = new ReleaseHouse();
            int release = Given.released(house, 0, Given.byTrain(), Given.await(9));
            house.train(1);
            house.board(0, release);
            house.die(true);
            house.pass(1);
            Check.same("not noted", house.at(release), 0);
            house.rise();
            Check.same("goes on", house.pass(1), 1);
        });
        Check.test("16: a stop is an effect, and is noted with it", () -> {
            ReleaseHouse ahead = withBadCanary();
            ahead.die(false);
            Check.same("ahead of it", ahead.pass(1), 0);
            Check.same("running", ahead.state(1), 0);
            Check.same("its candidate", ahead.candidate(0, 0), 1);
            ReleaseHouse behind = withBadCanary();
            behind.die(true);
            Check.same("behind it", behind.pass(1), 1);
            Check.same("stopped", behind.state(1), 3);
            Check.same("its candidate is lost", behind.candidate(0, 0), NONE);
            Check.yes("dead", behind.isDead());
        });
        Check.test("16: a skip is an effect, and is noted with it", () -> {
            for (int way = 0; way < 2; way++) {
                ReleaseHouse house = new ReleaseHouse();
                int older = Given.easy(house, 0);
                Given.stable(house, 0, Given.program(house, Given.promote(0)));
                house.release(older, 0);
                house.die(way == 1);
                Check.same("noted", house.pass(1), way);
                Check.same("skipped", house.state(1), way == 1 ? 4 : 0);
                Check.yes("dead", house.isDead());
            }
        });
        Check.test("16: what comes of a stop is noted with it", () -> {
            ReleaseHouse house = new ReleaseHouse();
            Given.stable(house, 0, Given.program(house, Given.promote(0)));
            int normal = Given.released(house, 0, Given.share(0, 50), Given.await(99));
            house.pass(1);
            int hotfix = house.release(Given.hotfix(house, 0),
                    Given.program(house, Given.share(0, 50), Given.judge(0)));
            house.pass(1);
            Given.measures(house, 8, true, true, 1);
            Given.measures(house, 8, false, false, 1);
            house.die(true);
            Check.same("the stop", house.pass(1), 1);
            Check.same("stopped", house.state(hotfix), 3);
            Check.same("the other one runs again", house.state(normal), 0);
            Check.same("and does nothing in that minute", house.at(normal), 0);
        });
    }

    private static void rise() {
        Check.test("17: throws if the controller is not dead", () -> {
            Refusal.badState("alive", ReleaseHouse::new, ReleaseHouse::rise);
            Refusal.badState("told to die", () -> {
                ReleaseHouse house = new ReleaseHouse();
                house.die(true);
                return house;
            }, ReleaseHouse::rise);
            Refusal.badState("risen", () -> {
                ReleaseHouse house = withDead(true);
                house.rise();
                return house;
            }, ReleaseHouse::rise);
        });
        Check.test("17: returns how many releases are running", () -> {
            Check.same("two", withDead(false).rise(), 2);
            ReleaseHouse house = withDead(false);
            house.stop(0);
            Check.same("one that has ended is not", house.rise(), 1);
            ReleaseHouse none = withDead(false);
            none.stop(0);
            none.stop(1);
            Check.same("none", none.rise(), 0);
            ReleaseHouse overtaken = new ReleaseHouse();
            int program = Given.program(overtaken, Given.share(0, 5), Given.await(0));
            overtaken.release(Given.easy(overtaken, 0), program);
            overtaken.pass(1);
            overtaken.release(Given.hotfix(overtaken, 0), program);
            overtaken.die(true);
            overtaken.pass(1);
            Check.same("one that is overtaken is not", overtaken.rise(), 1);
        });
        Check.test("17: the next controller has not been told to die", () -> {
            for (int way = 0; way < 2; way++) {
                ReleaseHouse house = withDead(way == 1);
                house.rise();
                Check.same("it goes on", house.pass(1), 2);
                Check.no("dead", house.isDead());
            }
        });
        Check.test("17: what it was told by others stays, and is told while none is alive", () -> {
            ReleaseHouse house = withDead(false);
            int release = Given.released(house, 2, Given.approvals(2), Given.share(0, 5), Given.byTrain());
            house.approve(release, 1);
            house.approve(release, 2);
            house.except(release, 1);
            house.freeze(0, 0, 20000, 3);
            house.hold(3);
            house.train(4);
            house.board(0, release);
            house.rise();
            Check.badState("excepted", () -> house.except(release, 1));
            Check.same("approved, and not frozen", house.pass(2), 2);
            Check.same("held", house.why(Given.released(house, 3, Given.share(0, 5))), 2);
            Check.same("on board", house.pass(1), 1);
        });
        Check.test("17: measures are taken while none is alive", () -> {
            ReleaseHouse house = new ReleaseHouse();
            Given.stable(house, 0, Given.program(house, Given.promote(0)));
            int release = Given.released(house, 0, Given.share(0, 5), Given.judge(0), Given.await(9));
            house.die(true);
            house.pass(1);
            Given.measures(house, 8, true, true, 1);
            Given.measures(house, 8, false, false, 1);
            house.rise();
            Check.same("the step that was not noted, and the stop", house.pass(2), 2);
            Check.same("stopped", house.state(release), 3);
        });
        Check.test("18: tells whether the controller is dead", () -> {
            ReleaseHouse house = new ReleaseHouse();
            Check.no("a new one", house.isDead());
            house.die(false);
            Check.no("told so", house.isDead());
            house.pass(200);
            Check.no("nothing went on", house.isDead());
            ReleaseHouse dead = withDead(false);
            Check.yes("died", dead.isDead());
            dead.rise();
            Check.no("the next one", dead.isDead());
        });
    }

    private static void effects() {
        Check.test("19: a change of the stable artefact, of the candidate, or of the share", () -> {
            ReleaseHouse house = new ReleaseHouse();
            Given.released(house, 0, Given.share(0, 5), Given.share(0, 6), Given.share(1, 6), Given.promote(2),
                    Given.promote(0), Given.await(99));
            Check.same("none at first", house.effects(), 0);
            for (int i = 1; i <= 5; i++) {
                house.pass(1);
                Check.same("behind so many steps", house.effects(), i);
            }
            house.pass(1);
            Check.same("no more", house.effects(), 5);
        });
        Check.test("19: what does not change is none", () -> {
            ReleaseHouse house = new ReleaseHouse();
            Given.released(house, 0, Given.share(0, 5), Given.share(0, 5), Given.promote(0), Given.promote(0),
                    Given.share(0, 5), Given.await(0));
            house.pass(6);
            Check.same("the same share, and the same stable one", house.effects(), 2);
        });
        Check.test("19: each once for a ring and a step", () -> {
            ReleaseHouse house = new ReleaseHouse();
            Given.released(house, 0, Given.share(0, 5), Given.promote(0));
            house.pass(2);
            Check.same("stable and no candidate there, one", house.effects(), 2);
            Given.released(house, 0, Given.share(0, 5), Given.await(99));
            house.pass(1);
            house.release(Given.hotfix(house, 0), Given.program(house, Given.promote(0)));
            house.pass(1);
            Check.same("a rival's candidate lost and stable, one", house.effects(), 4);
        });
    }

    private static void effectsOfLosing() {
        Check.test("19: also the candidates that are lost: overtaken", () -> {
            ReleaseHouse house = new ReleaseHouse();
            Given.released(house, 0, Given.share(0, 5), Given.share(1, 5), Given.share(2, 5), Given.await(99));
            house.pass(3);
            house.release(Given.hotfix(house, 0), Given.program(house, Given.share(0, 5), Given.await(99)));
            house.pass(1);
            Check.same("one for each ring", house.effects(), 6);
        });
        Check.test("19: also the candidates that are lost: skipped", () -> {
            ReleaseHouse house = new ReleaseHouse();
            int older = Given.easy(house, 0);
            Given.stable(house, 0, Given.program(house, Given.promote(2)));
            house.release(older, Given.program(house, Given.share(0, 5), Given.share(1, 5), Given.share(2, 5)));
            house.pass(3);
            Check.same("two are lost", house.effects(), 5);
            house.release(older, 0);
            house.pass(1);
            Check.same("none is", house.effects(), 5);
        });
        Check.test("19: also the candidates that are lost: stopped", () -> {
            ReleaseHouse house = withBadCanary();
            Check.same("ahead", house.effects(), 2);
            house.pass(1);
            Check.same("by the controller", house.effects(), 3);
            ReleaseHouse other = withBadCanary();
            other.stop(1);
            Check.same("by a call", other.effects(), 3);
        });
        Check.test("19: going back is one", () -> {
            ReleaseHouse house = new ReleaseHouse();
            Given.stable(house, 0, Given.program(house, Given.promote(0)));
            int release = Given.released(house, 0, Given.promote(0), Given.share(1, 5), Given.await(99));
            house.pass(2);
            house.stop(release);
            Check.same("and the candidate elsewhere another one", house.effects(), 5);
        });
    }
}
