/** Promises 7 to 13, sentence by sentence: the edges that the document names. */
public final class ReleaseEdgesTest {
    private static final int NONE = ReleaseHouse.NONE;

    public static void main(String[] args) {
        program();
        step();
        stepKinds();
        release();
        releaseAnew();
        approve();
        stop();
        stopGoesBack();
        stopIsStuck();
        state();
        at();
        Check.finish();
    }

    private static ReleaseHouse withPrograms(int count) {
        ReleaseHouse house = new ReleaseHouse();
        for (int i = 0; i < count; i++) {
            house.program();
        }
        return house;
    }

    private static void program() {
        Check.test("7: programs are numbered from 0, at most 6", () -> {
            ReleaseHouse house = new ReleaseHouse();
            for (int i = 0; i < 6; i++) {
                Check.same("its number", house.program(), i);
            }
            Check.same("the last one is there", house.step(5, 1, 0, 0), 1);
        });
        Check.test("7: throws if there are 6",
                () -> Refusal.badState("a seventh", () -> withPrograms(6), ReleaseHouse::program));
        Check.test("7: without steps", () -> Refusal.badState("nothing to be done", () -> {
            ReleaseHouse house = withPrograms(1);
            Given.easy(house, 0);
            return house;
        }, house -> house.release(0, 0)));
    }

    private static ReleaseHouse withSteps(int count) {
        ReleaseHouse house = withPrograms(1);
        for (int i = 1; i <= count; i++) {
            Check.same("how many steps it has then", house.step(0, 1, 0, 0), i);
        }
        return house;
    }

    private static void step() {
        Check.test("8: throws if there is no such program", () -> {
            Refusal.numbers(() -> withPrograms(2), 2, (house, n) -> house.step(n, 1, 0, 0));
            Refusal.noSuch("none at all", ReleaseHouse::new, house -> house.step(0, 1, 0, 0));
        });
        Check.test("8: a program has at most 10 steps", () -> {
            Check.same("the other one has none", withPrograms(2).step(1, 1, 0, 0), 1);
            Refusal.badState("it has 10", () -> withSteps(10), house -> house.step(0, 1, 0, 0));
        });
        Check.test("8: throws if a release is by it", () -> {
            Refusal.World released = () -> {
                ReleaseHouse house = withSteps(1);
                house.release(Given.easy(house, 0), 0);
                return house;
            };
            Refusal.badState("that runs", released, house -> house.step(0, 1, 0, 0));
            Refusal.badState("that is done", () -> {
                ReleaseHouse house = released.make();
                house.pass(1);
                return house;
            }, house -> house.step(0, 1, 0, 0));
        });
        Check.test("8: of several exceptions it is the first one", () -> {
            Refusal.noSuch("number and arguments", () -> withPrograms(1), house -> house.step(1, 7, -1, -1));
            Refusal.badArgument("argument and state", () -> withSteps(10), house -> house.step(0, 1, 1001, 0));
        });
    }

    private static void stepKinds() {
        Refusal.World one = () -> withPrograms(1);
        Check.test("8: kind: 0 to 6", () -> Refusal.range(one, 0, 6, (house, n) -> house.step(0, n, 0, 1)));
        Check.test("8: of: the ring, 0 to 2", () -> {
            for (int kind : new int[] {0, 2, 4, 6}) {
                Refusal.range(one, 0, 2, (house, n) -> house.step(0, kind, n, 1));
            }
        });
        Check.test("8: of: for WAIT the minutes, 0 to 1000",
                () -> Refusal.range(one, 0, 1000, (house, n) -> house.step(0, 1, n, 1)));
        Check.test("8: of: for APPROVE the people, 0 to 5",
                () -> Refusal.range(one, 0, 5, (house, n) -> house.step(0, 3, n, 1)));
        Check.test("8: of: for TRAIN it counts for nothing", () -> {
            for (int of : new int[] {Integer.MIN_VALUE, -1, 0, 3, Integer.MAX_VALUE}) {
                Check.same("" + of, one.make().step(0, 5, of, 0), 1);
            }
        });
        Check.test("8: with: for SHARE the share, 1 to 100",
                () -> Refusal.range(one, 1, 100, (house, n) -> house.step(0, 0, 0, n)));
        Check.test("8: with: for others it counts for nothing", () -> {
            for (int kind = 1; kind <= 6; kind++) {
                for (int with : new int[] {Integer.MIN_VALUE, -1, 0, 101, Integer.MAX_VALUE}) {
                    Check.same(kind + " with " + with, one.make().step(0, kind, 0, with), 1);
                }
            }
        });
    }

    /** The program 0 waits for long; the program 1 is without steps. */
    private static ReleaseHouse withArtefacts(int count) {
        ReleaseHouse house = new ReleaseHouse();
        Given.program(house, Given.await(1000));
        house.program();
        for (int i = 0; i < count; i++) {
            Given.easy(house, 0);
        }
        return house;
    }

    private static void release() {
        Refusal.World two = () -> withArtefacts(2);
        Check.test("9: throws if there is no such artefact",
                () -> Refusal.numbers(two, 2, (house, n) -> house.release(n, 0)));
        Check.test("9: throws if there is no such program", () -> {
            Refusal.numbers(() -> {
                ReleaseHouse house = two.make();
                house.step(1, 1, 0, 0);
                return house;
            }, 2, (house, n) -> house.release(0, n));
            Refusal.noSuch("of both", two, house -> house.release(2, 2));
        });
        Check.test("9: throws if the program has no steps", () -> {
            Refusal.badState("none", two, house -> house.release(0, 1));
            ReleaseHouse house = two.make();
            house.step(1, 1, 0, 0);
            Check.same("one", house.release(0, 1), 0);
        });
        Check.test("9: releases are numbered from 0, at most 20", () -> {
            Check.same("the last one is there", withTwenty().state(19), 0);
            Refusal.badState("there are 20", ReleaseEdgesTest::withTwenty, house -> house.release(20, 0));
        });
        Check.test("9: those that have ended are of the 20 too", () -> Refusal.badState("there are 20", () -> {
            ReleaseHouse house = withTwenty();
            for (int i = 0; i < 20; i++) {
                house.stop(i);
            }
            return house;
        }, house -> house.release(0, 0)));
        Check.test("9: is at a step, at first the first one", () -> {
            ReleaseHouse house = two.make();
            house.release(0, 0);
            Check.same("at", house.at(0), 0);
            Check.same("running", house.state(0), 0);
        });
        Check.test("9: of several exceptions it is the first one", () -> {
            Refusal.noSuch("artefact and no steps", two, house -> house.release(2, 1));
            Refusal.noSuch("program and a release that has not ended", () -> {
                ReleaseHouse house = two.make();
                house.release(0, 0);
                return house;
            }, house -> house.release(0, 2));
        });
    }

    private static ReleaseHouse withTwenty() {
        ReleaseHouse house = withArtefacts(21);
        for (int i = 0; i < 20; i++) {
            Check.same("its number", house.release(i, 0), i);
        }
        return house;
    }

    /** The release 0 is overtaken by the release 1. */
    private static ReleaseHouse withOvertaken() {
        ReleaseHouse house = new ReleaseHouse();
        int program = Given.program(house, Given.share(0, 10), Given.await(1000));
        house.release(Given.easy(house, 0), program);
        house.pass(1);
        house.release(Given.hotfix(house, 0), program);
        house.pass(1);
        Check.same("overtaken", house.state(0), 1);
        return house;
    }

    private static void releaseAnew() {
        Check.test("9: throws if the artefact has a release that has not ended", () -> {
            Refusal.badState("running", () -> {
                ReleaseHouse house = withArtefacts(1);
                house.release(0, 0);
                return house;
            }, house -> house.release(0, 0));
            Refusal.badState("overtaken", ReleaseEdgesTest::withOvertaken, house -> house.release(0, 0));
        });
        Check.test("9: one that has ended is none of these", () -> {
            ReleaseHouse house = withArtefacts(2);
            int once = Given.program(house, Given.promote(0));
            house.release(0, 0);
            house.stop(0);
            Check.same("stopped", house.release(0, once), 1);
            house.release(1, once);
            house.pass(2);
            Check.same("done", house.release(0, once), 3);
            house.pass(1);
            Check.same("skipped", house.state(3), 4);
            Check.same("again", house.release(0, once), 4);
        });
    }

    private static void approve() {
        Refusal.World two = () -> {
            ReleaseHouse house = withArtefacts(1);
            house.artefact(1, 5, 0, 0, NONE, 1, 0, false, true);
            house.release(0, 0);
            house.release(1, 0);
            return house;
        };
        Check.test("10: throws if there is no such release",
                () -> Refusal.numbers(two, 2, (house, n) -> house.approve(n, 1)));
        Check.test("10: person: 0 to 5", () -> Refusal.range(() -> {
            ReleaseHouse house = withArtefacts(0);
            house.artefact(0, 3, 0, 0, NONE, 1, 0, false, true);
            house.release(0, 0);
            return house;
        }, 0, 5, (house, n) -> house.approve(0, n)));
        Check.test("10: throws if the person is its author", () -> {
            Refusal.badState("the first person", two, house -> house.approve(0, 0));
            Refusal.badState("the last person", two, house -> house.approve(1, 5));
            Check.same("the author of another one", two.make().approve(0, 5), 1);
        });
        Check.test("10: throws if the person has approved it", () -> {
            Refusal.badState("twice", () -> {
                ReleaseHouse house = two.make();
                house.approve(0, 1);
                return house;
            }, house -> house.approve(0, 1));
            ReleaseHouse house = two.make();
            house.approve(0, 1);
            Check.same("of another release", house.approve(1, 1), 1);
        });
        Check.test("10: returns how many people have", () -> {
            ReleaseHouse house = two.make();
            for (int person = 1; person <= 5; person++) {
                Check.same("all but its author", house.approve(0, person), person);
            }
        });
        Check.test("10: throws if it has ended", () -> {
            for (int way = 2; way <= 4; way++) {
                int state = way;
                Refusal.badState("state " + state, () -> withEnded(state), house -> house.approve(0, 1));
            }
            Check.same("one that is overtaken has not", withOvertaken().approve(0, 1), 1);
        });
        Check.test("10: of several exceptions it is the first one", () -> {
            Refusal.noSuch("release and person", two, house -> house.approve(2, 6));
            Refusal.badArgument("person and an end", () -> withEnded(3), house -> house.approve(0, 6));
        });
    }

    /** The release 0 is done (2), stopped (3) or skipped (4). */
    private static ReleaseHouse withEnded(int state) {
        ReleaseHouse house = withArtefacts(2);
        int promoting = Given.program(house, Given.promote(0));
        if (state == 3) {
            house.release(0, 0);
            house.stop(0);
        } else if (state == 2) {
            house.release(0, promoting);
        } else {
            house.release(0, Given.program(house, Given.await(1), Given.promote(0)));
            house.release(1, promoting);
            house.pass(1);
        }
        house.pass(1);
        Check.same("has ended", house.state(0), state);
        return house;
    }

    private static void stop() {
        Check.test("11: throws if there is no such release", () -> {
            Refusal.numbers(ReleaseEdgesTest::withOvertaken, 2, ReleaseHouse::stop);
            Refusal.noSuch("none at all", ReleaseHouse::new, house -> house.stop(0));
        });
        Check.test("11: throws if it has ended", () -> {
            for (int way = 2; way <= 4; way++) {
                int state = way;
                Refusal.badState("state " + state, () -> withEnded(state), house -> house.stop(0));
            }
        });
        Check.test("11: one that is overtaken has not ended", () -> {
            ReleaseHouse house = withOvertaken();
            Check.same("no ring is stuck", house.stop(0), 0);
            Check.same("stopped", house.state(0), 3);
            house.stop(1);
            Check.same("for good", house.state(0), 3);
        });
        Check.test("11: one that has done nothing", () -> {
            ReleaseHouse house = withArtefacts(1);
            house.release(0, 0);
            Check.same("no ring is stuck", house.stop(0), 0);
            Check.same("no effect", house.effects(), 0);
        });
        Check.test("11: when a release is stopped, it loses its candidates", () -> {
            ReleaseHouse house = new ReleaseHouse();
            house.release(Given.easy(house, 0), Given.program(house, Given.share(0, 1), Given.share(1, 1),
                    Given.share(2, 1), Given.await(9)));
            house.release(Given.easy(house, 1), Given.program(house, Given.share(0, 1), Given.await(9)));
            house.pass(3);
            house.stop(0);
            for (int ring = 0; ring < 3; ring++) {
                Check.same("candidate in the ring " + ring, house.candidate(0, ring), NONE);
                Check.same("share in the ring " + ring, house.share(0, ring), 0);
            }
            Check.same("that of another one stays", house.candidate(1, 0), 1);
            Check.same("each is an effect", house.effects(), 7);
        });
        Check.test("11: it may be stopped while the controller is dead", () -> {
            ReleaseHouse house = withArtefacts(1);
            house.release(0, Given.program(house, Given.share(0, 1), Given.await(9)));
            house.die(true);
            house.pass(1);
            Check.same("no ring is stuck", house.stop(0), 0);
            Check.same("its candidate is lost", house.candidate(0, 0), NONE);
        });
    }

    /** The artefact 0, then the artefact 1 by the release 1 is made the stable one in the rings given. */
    private static ReleaseHouse withSecond(int... rings) {
        ReleaseHouse house = new ReleaseHouse();
        int[][] steps = new int[rings.length + 1][];
        for (int i = 0; i < rings.length; i++) {
            steps[i] = Given.promote(rings[i]);
        }
        steps[rings.length] = Given.await(99);
        int program = Given.program(house, steps);
        int first = house.release(Given.withData(house, 0, 3, 0), program);
        house.pass(rings.length);
        house.release(Given.withData(house, 0, 255, 0), program);
        house.pass(rings.length);
        Check.same("the second one waits", house.at(1), rings.length);
        Check.same("the first one too", house.at(first), rings.length);
        return house;
    }

    private static void stopGoesBack() {
        Check.test("11: for each ring in which it did a PROMOTE with an effect", () -> {
            ReleaseHouse house = withSecond(0, 1, 2);
            int ahead = house.effects();
            Check.same("none is stuck", house.stop(1), 0);
            for (int ring = 0; ring < 3; ring++) {
                Check.same("stable again in the ring " + ring, house.stable(0, ring), 0);
            }
            Check.same("three effects", house.effects(), ahead + 3);
        });
        Check.test("11: a PROMOTE without an effect is none of these", () -> {
            ReleaseHouse house = withSecond(1);
            int again = Given.program(house, Given.promote(1), Given.await(99));
            house.stop(0);
            house.release(Given.easy(house, 0), Given.program(house, Given.promote(1)));
            house.pass(1);
            house.release(2, again);
            house.pass(1);
            Check.same("not stuck", house.stop(3), 0);
            Check.same("stable as it was", house.stable(0, 1), 2);
        });
        Check.test("11: where its artefact is still the stable one", () -> {
            ReleaseHouse house = withSecond(0, 2);
            house.release(Given.easy(house, 0), Given.program(house, Given.promote(2)));
            house.pass(1);
            Check.same("elsewhere it is no matter", house.stop(1), 0);
            Check.same("the ring 0 goes back", house.stable(0, 0), 0);
            Check.same("the ring 2 stays", house.stable(0, 2), 2);
        });
        Check.test("11: for each ring, by rising numbers", () -> {
            ReleaseHouse house = new ReleaseHouse();
            house.expand(0, 1);
            house.expand(0, 2);
            Given.withData(house, 0, 7, 0);
            Given.withData(house, 0, 6, 1);
            Given.withData(house, 0, 7, 2);
            house.release(0, Given.program(house, Given.promote(0)));
            int release = house.release(2, Given.program(house, Given.promote(0), Given.promote(1), Given.await(99)));
            house.release(1, Given.program(house, Given.promote(1)));
            house.pass(2);
            Check.same("the one ahead in the ring 1 may not live with that in the ring 0", house.forbids(1, 0), 1);
            Check.same("which comes first", house.stop(release), 1);
            Check.same("the ring 0 goes back", house.stable(0, 0), 0);
            Check.same("the ring 1 is stuck", house.stable(0, 1), 2);
        });
        Check.test("11: one that is overtaken goes back, too", () -> {
            ReleaseHouse house = new ReleaseHouse();
            Given.stable(house, 0, Given.program(house, Given.promote(0)));
            int release = Given.released(house, 0, Given.promote(0), Given.share(1, 5), Given.await(99));
            house.pass(2);
            house.release(Given.hotfix(house, 0), Given.program(house, Given.share(1, 5), Given.await(99)));
            house.pass(1);
            Check.same("overtaken", house.state(release), 1);
            Check.same("what it has made stable stays", house.stable(0, 0), 1);
            Check.same("stopped", house.stop(release), 0);
            Check.same("stable again", house.stable(0, 0), 0);
        });
        Check.test("11: a candidate there stays", () -> {
            ReleaseHouse house = withSecond(1);
            house.release(Given.easy(house, 0), Given.program(house, Given.share(1, 77)));
            house.pass(1);
            house.stop(1);
            Check.same("stable again", house.stable(0, 1), 0);
            Check.same("the candidate", house.candidate(0, 1), 2);
            Check.same("with its share", house.share(0, 1), 77);
        });
        Check.test("11: the one ahead of it may be made stable by one that is stopped itself", () -> {
            ReleaseHouse house = withSecond(1);
            house.stop(0);
            Check.same("the other one was stopped", house.state(0), 3);
            Check.same("goes back", house.stop(1), 0);
            Check.same("stable again", house.stable(0, 1), 0);
        });
        Check.test("11: an effect that was not noted is one, too", () -> {
            ReleaseHouse house = new ReleaseHouse();
            Given.stable(house, 0, Given.program(house, Given.promote(0)));
            int release = Given.released(house, 0, Given.promote(0), Given.await(99));
            house.die(true);
            house.pass(1);
            house.rise();
            house.pass(1);
            Check.same("noted by the next one, without an effect", house.at(release), 1);
            Check.same("goes back", house.stop(release), 0);
            Check.same("stable again", house.stable(0, 0), 0);
        });
        Check.test("11: also those of a release that runs again count", () -> {
            ReleaseHouse house = new ReleaseHouse();
            Given.stable(house, 0, Given.program(house, Given.promote(0)));
            int program = Given.program(house, Given.promote(0), Given.share(1, 10), Given.await(99));
            house.release(Given.easy(house, 0), program);
            house.pass(2);
            house.release(Given.hotfix(house, 0), Given.program(house, Given.share(1, 60)));
            house.pass(1);
            Check.same("done", house.state(2), 2);
            Check.same("runs again, its PROMOTE without an effect", house.at(1), 1);
            Check.same("goes back", house.stop(1), 0);
            Check.same("stable again", house.stable(0, 0), 0);
        });
    }

    private static void stopIsStuck() {
        Check.test("11: otherwise, also if there was none, the ring is stuck", () -> {
            ReleaseHouse house = new ReleaseHouse();
            house.release(Given.easy(house, 0), Given.program(house, Given.promote(0), Given.promote(1),
                    Given.promote(2), Given.await(9)));
            house.pass(3);
            int ahead = house.effects();
            Check.same("all three rings are", house.stop(0), 3);
            Check.same("nothing changes there", house.stable(0, 0) + house.stable(0, 1) + house.stable(0, 2), 0);
            Check.same("no effect", house.effects(), ahead);
        });
        Check.test("11: if this may live together with all that are live then", () -> {
            for (int way = 0; way < 3; way++) {
                ReleaseHouse house = new ReleaseHouse();
                int program = Given.program(house, Given.promote(0), Given.await(99));
                house.release(house.artefact(0, 0, 1, 0, NONE, 1, 0, false, true), program);
                house.pass(1);
                int release = house.release(house.artefact(0, 0, 3, 0, NONE, 1, 0, false, true), program);
                house.pass(1);
                int needy = house.release(house.artefact(3, 0, 0, way == 0 ? 1 : 3, 0, 1, 0, false, true),
                        Given.program(house, Given.share(2, 100), Given.await(99)));
                house.pass(1);
                if (way == 2) {
                    house.stop(needy);
                }
                Check.same("stuck, if one needs more, way " + way, house.stop(release), way == 1 ? 1 : 0);
                Check.same("stable, way " + way, house.stable(0, 0), way == 1 ? 1 : 0);
            }
        });
        Check.test("11: and it reads all that are stored", () -> {
            ReleaseHouse house = withSecond(0);
            house.expand(0, 2);
            house.migrate(0, 0, 2);
            house.halt(0);
            Check.same("none of that is, it goes back", house.stop(1), 0);
            ReleaseHouse other = withSecond(0);
            other.expand(0, 2);
            other.release(Given.withData(other, 0, 255, 2), Given.program(other, Given.share(1, 1), Given.await(9)));
            other.pass(2);
            other.stop(2);
            Check.same("one unit is stored", other.units(0, 2), 1);
            Check.same("stuck", other.stop(1), 1);
        });
        Check.test("11: and that to which a migration runs", () -> {
            ReleaseHouse house = withSecond(0);
            house.expand(0, 1);
            house.migrate(0, 7, 1);
            Check.same("it reads that", house.stop(1), 0);
            ReleaseHouse other = withSecond(0);
            other.expand(0, 2);
            other.migrate(0, 7, 2);
            Check.same("it does not", other.units(0, 2) + other.stop(1), 1);
        });
        Check.test("11: and what it writes is open", () -> {
            ReleaseHouse house = new ReleaseHouse();
            house.expand(0, 1);
            int program = Given.program(house, Given.promote(0), Given.await(99));
            house.release(Given.withData(house, 0, 3, 0), program);
            house.pass(1);
            int release = house.release(Given.withData(house, 0, 3, 1), program);
            house.pass(1);
            house.migrate(0, 0, 1);
            house.pass(1);
            house.halt(0);
            house.contract(0, 0);
            Check.same("it is closed", house.stop(release), 1);
            Check.same("nothing changes there", house.stable(0, 0), 1);
        });
        Check.test("11: what it needs is no matter", () -> {
            ReleaseHouse house = new ReleaseHouse();
            int program = Given.program(house, Given.promote(0), Given.await(99));
            int kept = house.release(Given.easy(house, 1), Given.program(house, Given.share(0, 1), Given.await(99)));
            house.pass(1);
            house.release(house.artefact(0, 0, 0, 1, 1, 1, 0, false, true), program);
            house.pass(1);
            int release = house.release(Given.easy(house, 0), program);
            house.pass(1);
            house.stop(kept);
            Check.same("goes back", house.stop(release), 0);
            Check.same("stable again", house.stable(0, 0), 1);
        });
    }

    private static void state() {
        Check.test("12: throws if there is no such release", () -> {
            Refusal.numbers(ReleaseEdgesTest::withOvertaken, 2, ReleaseHouse::state);
            Refusal.noSuch("none at all", ReleaseHouse::new, house -> house.state(0));
        });
        Check.test("12: 0 running, 1 overtaken, 2 done, 3 stopped, 4 skipped", () -> {
            Check.same("overtaken", withOvertaken().state(0), 1);
            Check.same("running", withOvertaken().state(1), 0);
            for (int state = 2; state <= 4; state++) {
                Check.same("ended", withEnded(state).state(0), state);
            }
        });
        Check.test("12: done, when it is behind the last step", () -> {
            ReleaseHouse house = withSteps(10);
            house.release(Given.easy(house, 0), 0);
            house.pass(9);
            Check.same("at the last one", house.state(0), 0);
            house.pass(1);
            Check.same("behind it", house.state(0), 2);
        });
        Check.test("12: if the stable one there is newer, the release is skipped", () -> {
            for (int kind : new int[] {0, 4}) {
                ReleaseHouse house = withArtefacts(2);
                int program = house.program();
                house.step(program, kind, 1, 1);
                Given.stable(house, 0, Given.program(house, Given.promote(1)));
                house.release(1, program);
                house.pass(1);
                Check.same("by one", house.state(1), 4);
                Check.same("in that ring", house.candidate(0, 1), NONE);
            }
        });
        Check.test("12: an older one there is no matter", () -> {
            ReleaseHouse house = new ReleaseHouse();
            int program = Given.program(house, Given.promote(1));
            Given.stable(house, 0, program);
            Given.stable(house, 0, program);
            Check.same("done", house.state(1), 2);
            Check.same("stable", house.stable(0, 1), 1);
        });
        Check.test("12: when a release of a hotfix has ended, those of that service are running again", () -> {
            for (int way = 0; way < 2; way++) {
                ReleaseHouse house = withOvertaken();
                int other = house.release(Given.hotfix(house, 1 - way), Given.program(house, Given.await(0)));
                house.pass(1);
                Check.same("it has ended", house.state(other), 2);
                Check.same("of that service alone, way " + way, house.state(0), 1 - way);
            }
            ReleaseHouse house = withOvertaken();
            house.release(Given.easy(house, 0), Given.program(house, Given.await(0)));
            house.pass(1);
            Check.same("one that is no hotfix has ended", house.state(0), 1);
        });
        Check.test("12: ended while the controller is dead", () -> {
            ReleaseHouse house = withOvertaken();
            Given.released(house, 1, Given.await(0));
            house.die(false);
            house.pass(1);
            house.stop(1);
            Check.same("runs again", house.state(0), 0);
            Check.same("the next controller has two", house.rise(), 2);
        });
        Check.test("12: ended by a stop, or skipped", () -> {
            ReleaseHouse house = withOvertaken();
            house.stop(1);
            Check.same("by a stop", house.state(0), 0);
            ReleaseHouse other = new ReleaseHouse();
            other.release(Given.easy(other, 0), Given.program(other, Given.share(0, 10), Given.await(99)));
            other.pass(1);
            int hotfix = other.release(Given.hotfix(other, 0),
                    Given.program(other, Given.share(0, 10), Given.share(1, 10), Given.await(99)));
            Given.stable(other, 0, Given.program(other, Given.promote(1)));
            Check.same("overtaken", other.state(0), 1);
            other.pass(1);
            Check.same("skipped", other.state(hotfix), 4);
            Check.same("runs again", other.state(0), 0);
        });
        Check.test("12: skipped, it loses its candidates, in all rings, and nothing else", () -> {
            ReleaseHouse house = new ReleaseHouse();
            Given.stable(house, 0, Given.program(house, Given.promote(1)));
            int older = Given.easy(house, 0);
            Given.stable(house, 0, Given.program(house, Given.promote(2)));
            house.release(older, Given.program(house, Given.promote(1), Given.share(0, 10), Given.share(2, 10)));
            house.pass(3);
            Check.same("skipped", house.state(2), 4);
            Check.same("its candidate", house.candidate(0, 0), NONE);
            Check.same("what it has made stable stays", house.stable(0, 1), older);
        });
    }

    private static void at() {
        Check.test("13: throws if there is no such release", () -> {
            Refusal.numbers(ReleaseEdgesTest::withOvertaken, 2, ReleaseHouse::at);
            Refusal.noSuch("none at all", ReleaseHouse::new, house -> house.at(0));
        });
        Check.test("13: at which step a release is, from 0", () -> {
            ReleaseHouse house = withSteps(10);
            house.release(Given.easy(house, 0), 0);
            for (int i = 0; i < 10; i++) {
                Check.same("behind so many", house.at(0), i);
                house.pass(1);
            }
        });
        Check.test("13: how many its program has, if it is done", () -> {
            for (int count : new int[] {1, 10}) {
                ReleaseHouse house = withSteps(count);
                house.release(Given.easy(house, 0), 0);
                house.pass(count);
                Check.same("of " + count, house.at(0), count);
                house.pass(1);
                Check.same("for good", house.at(0), count);
            }
        });
        Check.test("13: one that has ended otherwise is where it was", () -> {
            Check.same("stopped", withEnded(3).at(0), 0);
            Check.same("skipped", withEnded(4).at(0), 1);
        });
        Check.test("13: running again, from their first step on", () -> {
            ReleaseHouse house = withOvertaken();
            Check.same("overtaken where it was", house.at(0), 1);
            house.stop(1);
            Check.same("again", house.at(0), 0);
        });
    }
}
