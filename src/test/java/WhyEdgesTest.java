/** Promise 14, sentence by sentence: each reason why a step does not go on, at its edges. */
public final class WhyEdgesTest {
    private static final int NONE = ReleaseHouse.NONE;

    public static void main(String[] args) {
        numbers();
        stableThere();
        heldOrFrozen();
        rival();
        capacity();
        proofAndData();
        await();
        judge();
        approvals();
        train();
        drain();
        order();
        Check.finish();
    }

    /** The artefact 0 of the service 0 is the stable one in the ring 0. */
    private static ReleaseHouse withStable() {
        ReleaseHouse house = new ReleaseHouse();
        Given.stable(house, 0, Given.program(house, Given.promote(0)));
        return house;
    }

    private static void numbers() {
        Check.test("14: throws if there is no such release", () -> {
            Refusal.numbers(() -> {
                ReleaseHouse house = withStable();
                Given.released(house, 0, Given.await(1));
                return house;
            }, 2, ReleaseHouse::why);
            Refusal.noSuch("none at all", ReleaseHouse::new, house -> house.why(0));
        });
    }

    private static void hinder(ReleaseHouse house, int service, int ring) {
        house.hold(service);
        house.freeze(ring, 0, 20000, 3);
        for (int zone = 0; zone < 3; zone++) {
            house.zone(ring, zone);
        }
    }

    private static void stableThere() {
        Check.test("14: if the artefact is the stable one there, the step is done without an effect", () -> {
            for (int way = 0; way < 2; way++) {
                ReleaseHouse house = withStable();
                int release = house.release(0, Given.program(house, way == 0 ? Given.share(0, 5) : Given.promote(0)));
                hinder(house, 0, 0);
                Check.same("goes on, whatever hinders others", house.why(release), 0);
                Check.same("noted", house.pass(1), 1);
                Check.same("no effect", house.effects(), 1);
                Check.same("no candidate", house.candidate(0, 0), NONE);
            }
        });
        Check.test("14: if the stable one there is newer, 0 also to be skipped", () -> {
            ReleaseHouse house = new ReleaseHouse();
            int older = Given.easy(house, 0);
            Given.stable(house, 0, Given.program(house, Given.promote(0)));
            int release = house.release(older, Given.program(house, Given.share(0, 5)));
            hinder(house, 0, 0);
            Check.same("whatever hinders others", house.why(release), 0);
            house.pass(1);
            Check.same("skipped", house.state(release), 4);
        });
        Check.test("14: a newer one that is stable in another ring is no matter", () -> {
            ReleaseHouse house = new ReleaseHouse();
            int older = Given.easy(house, 0);
            Given.stable(house, 0, Given.program(house, Given.promote(0)));
            int release = house.release(older, Given.program(house, Given.share(1, 5)));
            house.pass(1);
            Check.same("done", house.state(release), 2);
            Check.same("candidate", house.candidate(0, 1), older);
        });
        Check.test("14: a newer one that is stable of another service is no matter", () -> {
            ReleaseHouse house = new ReleaseHouse();
            int older = Given.easy(house, 0);
            Given.stable(house, 1, Given.program(house, Given.promote(0)));
            house.release(older, 0);
            house.pass(1);
            Check.same("stable", house.stable(0, 0), older);
        });
    }

    private static void heldOrFrozen() {
        Check.test("14: 2, if the service is held", () -> {
            for (int way = 0; way < 2; way++) {
                ReleaseHouse house = new ReleaseHouse();
                int release = Given.released(house, 3, way == 0 ? Given.share(0, 5) : Given.promote(2));
                house.hold(2);
                Check.same("another one", house.why(release), 0);
                house.hold(3);
                Check.same("this one", house.why(release), 2);
                Check.same("it does nothing", house.pass(3), 0);
                house.hold(3);
                Check.same("let go", house.why(release), 0);
            }
        });
        Check.test("14: other steps go on in a service that is held", () -> {
            ReleaseHouse house = new ReleaseHouse();
            int release = Given.released(house, 0, Given.await(0),
                    Given.approvals(0), Given.drain(0), Given.promote(0));
            hinder(house, 0, 0);
            Check.same("three of four", house.pass(9), 3);
            Check.same("the last one does not", house.why(release), 2);
        });
        Check.test("14: 3, if the ring is frozen for it", () -> {
            for (int way = 0; way < 2; way++) {
                ReleaseHouse house = new ReleaseHouse();
                int release = Given.released(house, 0, way == 0 ? Given.share(1, 5) : Given.promote(1));
                house.freeze(0, 0, 20000, 3);
                Check.same("another ring", house.why(release), 0);
                house.freeze(1, 0, 0, 1);
                Check.same("this one", house.why(release), 3);
                house.pass(1);
                Check.same("behind it", house.at(release), 1);
            }
        });
    }

    private static void rival() {
        Check.test("14: 4, unless this one is a hotfix and that one is not", () -> {
            for (int way = 0; way < 8; way++) {
                ReleaseHouse house = new ReleaseHouse();
                boolean isRivalHot = way % 2 == 1;
                boolean isHot = way / 2 % 2 == 1;
                house.artefact(0, 0, 0, 0, NONE, 1, 0, isRivalHot, true);
                house.release(0, Given.program(house, Given.share(0, 5), Given.await(99)));
                house.pass(1);
                house.artefact(0, 0, 0, 0, NONE, 1, 0, isHot, true);
                house.release(1, Given.program(house, way < 4 ? Given.share(0, 5) : Given.promote(0)));
                Check.same("hotfix " + isHot + ", that one " + isRivalHot, house.why(1), isHot && !isRivalHot ? 0 : 4);
            }
        });
        Check.test("14: 4, as long as that release has not ended", () -> {
            ReleaseHouse house = new ReleaseHouse();
            int rival = Given.released(house, 0, Given.share(0, 5), Given.await(1));
            house.pass(1);
            int release = Given.released(house, 0, Given.share(0, 6));
            Check.same("it runs", house.why(release), 4);
            house.hold(0);
            house.pass(1);
            house.hold(0);
            Check.same("it is done", house.state(rival), 2);
            Check.same("its candidate is still there", house.candidate(0, 0), 0);
            Check.same("and in nobody's way", house.why(release), 0);
            house.pass(1);
            Check.same("another candidate", house.candidate(0, 0), 1);
            Check.same("that one was not overtaken", house.state(rival), 2);
        });
        Check.test("14: the artefact's own candidate is no other one", () -> {
            ReleaseHouse house = new ReleaseHouse();
            int release = Given.released(house, 0, Given.share(0, 5), Given.share(0, 6), Given.promote(0));
            for (int i = 0; i < 3; i++) {
                Check.same("step " + i, house.why(release), 0);
                house.pass(1);
            }
        });
        Check.test("14: a candidate in another ring, or of another service, is no matter", () -> {
            ReleaseHouse house = new ReleaseHouse();
            Given.released(house, 0, Given.share(0, 5), Given.await(99));
            Given.released(house, 1, Given.share(1, 5), Given.await(99));
            house.pass(1);
            Check.same("of this service in another ring", house.why(Given.released(house, 0, Given.share(1, 5))), 0);
        });
    }

    /** The ring 0 has one zone, of whose 4 places the stable artefacts of the services 1 and 2 take all. */
    private static ReleaseHouse withFullRing() {
        ReleaseHouse house = new ReleaseHouse();
        house.zone(0, 0);
        house.zone(0, 1);
        int program = Given.program(house, Given.promote(0));
        Given.stable(house, 1, program);
        Given.stable(house, 2, program);
        Check.same("none is left", house.left(0), 0);
        return house;
    }

    private static void capacity() {
        Check.test("14: 5, if all that take places take more than there are", () -> {
            int[][] rows = {
                {50, 0, 5}, {50, 1, 0}, {51, 1, 5}, {51, 2, 0}, {100, 1, 5}, {1, 1, 0}, {0, 1, 5}, {0, 2, 0},
            };
            for (int[] row : rows) {
                ReleaseHouse house = withFullRing();
                int release = Given.released(house, 0, row[0] == 0 ? Given.promote(0) : Given.share(0, row[0]));
                house.surge(0, row[1]);
                Check.same("share " + row[0] + " (0 is PROMOTE), left " + row[1], house.why(release), row[2]);
            }
        });
        Check.test("14: no more than ahead of it is enough", () -> {
            ReleaseHouse house = withFullRing();
            house.surge(0, 2);
            int release = Given.released(house, 0, Given.share(0, 51), Given.share(0, 100), Given.share(0, 50),
                    Given.share(0, 51), Given.await(99));
            house.pass(1);
            house.zone(0, 2);
            Check.same("far too many are taken", house.left(0), -4);
            Check.same("as many as ahead of it", house.why(release), 0);
            house.pass(1);
            Check.same("fewer", house.why(release), 0);
            house.pass(1);
            Check.same("one more", house.why(release), 5);
        });
        Check.test("14: PROMOTE takes the place of its own candidate, and of the stable one", () -> {
            ReleaseHouse house = withFullRing();
            int release = Given.released(house, 1, Given.promote(0));
            Check.same("two for two", house.why(release), 0);
            ReleaseHouse other = withFullRing();
            other.surge(0, 2);
            int large = Given.released(other, 0, Given.share(0, 51), Given.promote(0));
            other.pass(1);
            Check.same("two for two of its own", other.why(large), 0);
            ReleaseHouse third = withFullRing();
            third.surge(0, 1);
            int small = Given.released(third, 0, Given.share(0, 50), Given.promote(0));
            third.pass(1);
            Check.same("two for one of its own", third.why(small), 5);
            third.surge(0, 2);
            Check.same("with one more", third.why(small), 0);
        });
        Check.test("14: for SHARE, the candidates of the service in all rings take 4 places at most", () -> {
            int[][] rows = {{50, 50, 100, 0}, {50, 51, 1, 0}, {100, 51, 1, 5}, {50, 51, 51, 5}, {1, 1, 1, 0}};
            for (int[] row : rows) {
                ReleaseHouse house = new ReleaseHouse();
                Given.released(house, 1, Given.share(0, 100), Given.share(1, 100), Given.await(99));
                int release = Given.released(house, 0, Given.share(0, row[0]), Given.share(1, row[1]),
                        Given.share(2, row[2]), Given.await(99));
                house.pass(2);
                Check.same(row[0] + ", " + row[1] + ", " + row[2], house.why(release), row[3]);
            }
        });
        Check.test("14: what is overtaken is gone, in all rings", () -> {
            ReleaseHouse house = withFullRing();
            house.surge(0, 1);
            Given.released(house, 0, Given.share(0, 50), Given.share(1, 100), Given.share(2, 50), Given.await(99));
            house.pass(3);
            int hotfix = house.release(Given.hotfix(house, 0),
                    Given.program(house, Given.share(0, 50), Given.share(1, 100), Given.await(99)));
            Check.same("one place for one", house.why(hotfix), 0);
            house.pass(2);
            Check.same("both go on", house.at(hotfix), 2);
            ReleaseHouse other = new ReleaseHouse();
            Given.released(other, 0, Given.share(0, 50), Given.share(1, 100), Given.share(2, 50), Given.await(99));
            other.pass(3);
            int large = other.release(Given.hotfix(other, 0), Given.program(other, Given.share(0, 100)));
            Check.same("its two places, and none of the other rings", other.why(large), 0);
        });
        Check.test("14: what is not overtaken counts, in all rings", () -> {
            for (int share = 50; share <= 51; share++) {
                ReleaseHouse house = new ReleaseHouse();
                Given.released(house, 0, Given.share(0, 50), Given.await(99));
                Given.released(house, 0, Given.share(1, 100), Given.share(2, 50), Given.await(99));
                house.pass(2);
                int hotfix = house.release(Given.hotfix(house, 0), Given.program(house, Given.share(0, share)));
                Check.same("2 and 1 of another release, share " + share, house.why(hotfix), share == 50 ? 0 : 5);
            }
        });
        Check.test("14: what is overtaken leaves no more places than it took", () -> {
            ReleaseHouse house = withFullRing();
            house.surge(0, 1);
            Given.released(house, 0, Given.share(0, 50), Given.await(99));
            house.pass(1);
            int hotfix = house.release(Given.hotfix(house, 0), Given.program(house, Given.share(0, 51)));
            Check.same("two for one", house.why(hotfix), 5);
        });
    }

    private static void proofAndData() {
        Check.test("14: 6, may not go live by the proof: what is live ahead of the step counts", () -> {
            ReleaseHouse house = new ReleaseHouse();
            house.release(Given.withData(house, 0, 1, 0), Given.program(house, Given.share(0, 5), Given.await(99)));
            house.pass(1);
            house.artefact(0, 0, 0, 0, NONE, 2, 1, true, true);
            int hotfix = house.release(1, Given.program(house, Given.share(0, 5)));
            Check.same("that which it would overtake", house.why(hotfix), 6);
            ReleaseHouse other = new ReleaseHouse();
            int program = Given.program(other, Given.promote(0));
            other.release(Given.withData(other, 0, 1, 0), program);
            other.pass(1);
            int next = other.release(Given.withData(other, 0, 3, 1), program);
            Check.same("that which would be stable no more", other.why(next), 6);
        });
        Check.test("14: 7, likewise by the data: what is live ahead of the step counts", () -> {
            ReleaseHouse house = new ReleaseHouse();
            int program = Given.program(house, Given.promote(0), Given.await(0));
            house.release(house.artefact(0, 0, 0, 1, 1, 1, 0, false, true), program);
            Check.same("what it needs is not live", house.why(0), 7);
            house.release(Given.easy(house, 1), program);
            house.pass(1);
            Check.same("it comes later in the minute", house.at(0), 0);
            Check.same("it is live now", house.why(0), 0);
        });
        Check.test("14: 7, if the schema that it writes is not open", () -> {
            ReleaseHouse house = new ReleaseHouse();
            int release = house.release(Given.withData(house, 0, 255, 7), Given.program(house, Given.share(2, 1)));
            Check.same("it is not", house.why(release), 7);
            house.expand(0, 7);
            Check.same("it is", house.why(release), 0);
        });
        Check.test("14: 6 and 7, if the artefact is not live", () -> {
            ReleaseHouse house = new ReleaseHouse();
            int kept = Given.released(house, 1, Given.share(0, 5), Given.await(99));
            house.pass(1);
            int needy = house.release(house.artefact(0, 0, 0, 1, 1, 1, 0, false, true),
                    Given.program(house, Given.share(0, 5), Given.share(1, 5), Given.await(99)));
            house.pass(1);
            house.stop(kept);
            Check.no("what it needs is not", house.isLive(0));
            Check.same("it is live elsewhere", house.why(needy), 0);
        });
    }

    private static void await() {
        Check.test("14: 8, as long as fewer minutes have gone by", () -> {
            for (int minutes : new int[] {1, 2, 200, 1000}) {
                ReleaseHouse house = new ReleaseHouse();
                int release = Given.released(house, 0, Given.await(minutes), Given.await(0));
                for (int left = minutes - 1; left > 0; left -= Math.min(left, 200)) {
                    house.pass(Math.min(left, 200));
                }
                Check.same("one fewer than " + minutes, house.why(release), 8);
                Check.same("nothing goes on so far", house.at(release), 0);
                Check.same("as many", house.pass(1), 1);
            }
        });
        Check.test("14: WAIT of 0 minutes", () -> {
            ReleaseHouse house = new ReleaseHouse();
            int release = Given.released(house, 0, Given.await(0), Given.await(0));
            Check.same("goes on at once", house.why(release), 0);
            house.pass(1);
            Check.same("and the next one", house.why(release), 0);
        });
        Check.test("14: since the step ahead was noted", () -> {
            ReleaseHouse house = new ReleaseHouse();
            int release = Given.released(house, 0, Given.approvals(1), Given.await(2), Given.await(0));
            house.pass(50);
            house.approve(release, 1);
            house.pass(2);
            Check.same("one minute", house.why(release), 8);
            house.die(true);
            house.pass(1);
            Check.yes("dead behind it", house.isDead());
            house.rise();
            Check.same("long enough still", house.why(release), 0);
        });
        Check.test("14: since it began", () -> {
            ReleaseHouse house = new ReleaseHouse();
            house.pass(50);
            int release = Given.released(house, 0, Given.await(1));
            Check.same("no minute", house.why(release), 8);
            house.pass(1);
            Check.same("one minute", house.state(release), 2);
        });
        Check.test("14: since it runs again", () -> {
            ReleaseHouse house = new ReleaseHouse();
            int release = Given.released(house, 0, Given.await(3), Given.share(0, 5), Given.await(99));
            house.pass(4);
            int hotfix = house.release(Given.hotfix(house, 0),
                    Given.program(house, Given.share(0, 5), Given.await(99)));
            house.pass(7);
            house.stop(hotfix);
            Check.same("no minute", house.why(release), 8);
            house.pass(2);
            Check.same("two minutes", house.why(release), 8);
            Check.same("three minutes", house.pass(1), 1);
        });
    }

    /** A stable artefact, and a release at a JUDGE of the ring 0, with its candidate there. */
    private static ReleaseHouse withCanary() {
        ReleaseHouse house = withStable();
        Given.released(house, 0, Given.share(0, 50), Given.judge(0), Given.await(99));
        house.pass(1);
        return house;
    }

    private static void judge() {
        Check.test("14: 9, as long as the verdict is open", () -> {
            ReleaseHouse house = withCanary();
            Check.same("no measure", house.why(1), 9);
            Given.measures(house, 20, true, false, 1);
            Given.measures(house, 19, false, false, 1);
            Check.same("19 pairs", house.why(1), 9);
            Check.same("it does nothing", house.pass(5), 0);
            Given.measures(house, 1, false, false, 1);
            Check.same("20 pairs", house.why(1), 0);
            house.pass(1);
            Check.same("by a good one it goes on", house.at(1), 2);
        });
        Check.test("14: 0 also to be stopped", () -> {
            ReleaseHouse house = withCanary();
            Given.measures(house, 8, true, true, 1);
            Given.measures(house, 7, false, false, 1);
            Check.same("7 pairs", house.why(1), 9);
            Given.measures(house, 1, false, false, 1);
            Check.same("8 pairs", house.why(1), 0);
            Check.same("noted", house.pass(1), 1);
            Check.same("by a bad one it is stopped", house.state(1), 3);
        });
        Check.test("14: 9, as long as its artefact is not the candidate there", () -> {
            ReleaseHouse house = withCanary();
            Given.measures(house, 20, true, false, 1);
            Given.measures(house, 20, false, false, 1);
            int foreign = Given.released(house, 0, Given.judge(0));
            Check.same("another one is, and good", house.why(foreign), 9);
            int own = house.release(0, Given.program(house, Given.judge(0)));
            Check.same("it is the stable one", house.why(own), 9);
            int nowhere = Given.released(house, 1, Given.judge(2));
            Check.same("none is", house.why(nowhere), 9);
            ReleaseHouse elsewhere = withStable();
            Given.released(elsewhere, 0, Given.share(1, 5), Given.judge(0));
            elsewhere.pass(1);
            Check.same("it is in another ring", elsewhere.why(1), 9);
            ReleaseHouse bad = withCanary();
            Given.measures(bad, 8, true, true, 1);
            Given.measures(bad, 8, false, false, 1);
            Check.same("another one is, and bad", bad.why(Given.released(bad, 0, Given.judge(0))), 9);
        });
    }

    private static void approvals() {
        Check.test("14: 10, as long as fewer people have approved the release", () -> {
            for (int people = 1; people <= 5; people++) {
                ReleaseHouse house = new ReleaseHouse();
                int release = Given.released(house, 0, Given.approvals(people));
                for (int person = 1; person < people; person++) {
                    house.approve(release, person);
                }
                Check.same("one fewer than " + people, house.why(release), 10);
                house.approve(release, people);
                Check.same("as many", house.why(release), 0);
            }
        });
        Check.test("14: APPROVE by 0 people", () -> {
            ReleaseHouse house = new ReleaseHouse();
            Check.same("goes on", house.why(Given.released(house, 0, Given.approvals(0))), 0);
        });
        Check.test("14: more people than it takes", () -> {
            ReleaseHouse house = new ReleaseHouse();
            int release = Given.released(house, 0, Given.approvals(1));
            house.approve(release, 1);
            house.approve(release, 5);
            Check.same("goes on", house.why(release), 0);
        });
    }

    private static void train() {
        Check.test("14: 11, until a train has taken it", () -> {
            ReleaseHouse house = new ReleaseHouse();
            int release = Given.released(house, 0, Given.byTrain(), Given.await(0));
            Check.same("none", house.why(release), 11);
            house.train(2);
            house.board(0, release);
            house.pass(1);
            Check.same("on board", house.why(release), 11);
            house.die(false);
            house.pass(1);
            house.rise();
            Check.same("taken", house.why(release), 0);
        });
        Check.test("14: since it came to this step the last time", () -> {
            ReleaseHouse house = new ReleaseHouse();
            int release = Given.released(house, 0, Given.byTrain(), Given.byTrain(), Given.await(99));
            house.train(1);
            house.board(0, release);
            house.pass(1);
            Check.same("the next one is another step", house.at(release), 1);
            Check.same("that train was for the first one", house.why(release), 11);
        });
        Check.test("14: since it came to this step the last time, running again", () -> {
            ReleaseHouse house = new ReleaseHouse();
            int release = Given.released(house, 0, Given.byTrain(),
                    Given.share(0, 5), Given.byTrain(), Given.await(99));
            house.train(1);
            house.board(0, release);
            house.pass(2);
            house.release(Given.hotfix(house, 0), Given.program(house, Given.share(0, 5)));
            house.train(3);
            house.board(1, release);
            house.pass(1);
            Check.same("taken, ahead of what overtakes it and is done", house.taken(1), 1);
            Check.same("from its first step", house.at(release), 0);
            Check.same("for which no train has taken it", house.why(release), 11);
        });
        Check.test("14: one that it boards behind that is no matter", () -> {
            ReleaseHouse house = new ReleaseHouse();
            int release = Given.released(house, 0, Given.byTrain(), Given.await(0));
            house.train(1);
            house.train(9);
            house.board(0, release);
            house.die(false);
            house.pass(1);
            Check.same("on board of the next one", house.board(1, release), 1);
            house.rise();
            Check.same("taken by the first one still", house.why(release), 0);
        });
        Check.test("14: one that left ahead of the step is none of these", () -> {
            ReleaseHouse house = new ReleaseHouse();
            int release = Given.released(house, 0, Given.await(0), Given.byTrain());
            house.train(1);
            house.board(0, release);
            house.pass(1);
            Check.same("it came to it in that minute", house.why(release), 11);
            house.pass(3);
            Check.same("for good", house.why(release), 11);
        });
    }

    private static void drain() {
        Check.test("14: 12, as long as there is a session with another artefact than the stable one there", () -> {
            ReleaseHouse house = withStable();
            house.begin(0, 0);
            house.begin(0, 190);
            int release = Given.released(house, 0, Given.promote(0), Given.drain(0), Given.await(0));
            house.pass(1);
            Check.same("two", house.why(release), 12);
            house.end(0, 0);
            Check.same("one", house.why(release), 12);
            house.end(0, 190);
            Check.same("none", house.why(release), 0);
            house.begin(0, 0);
            Check.same("one with the stable one", house.why(release), 0);
        });
        Check.test("14: of the ring, and of the service", () -> {
            ReleaseHouse house = new ReleaseHouse();
            int both = Given.program(house, Given.promote(0), Given.promote(1));
            house.release(Given.easy(house, 0), both);
            house.release(Given.easy(house, 1), both);
            house.pass(2);
            house.begin(0, 1);
            house.begin(1, 0);
            house.release(Given.easy(house, 0), both);
            house.release(Given.easy(house, 1), both);
            house.pass(2);
            Check.same("none in the ring 0", house.why(Given.released(house, 0, Given.drain(0))), 0);
            Check.same("one in the ring 1", house.why(Given.released(house, 0, Given.drain(1))), 12);
            Check.same("one of the other service", house.why(Given.released(house, 1, Given.drain(0))), 12);
        });
        Check.test("14: each session, if there is no stable one", () -> {
            ReleaseHouse house = new ReleaseHouse();
            int release = Given.released(house, 0, Given.share(2, 100), Given.drain(2), Given.await(0));
            house.pass(1);
            Check.same("none", house.why(release), 0);
            house.begin(0, 199);
            Check.same("one with its own candidate", house.why(release), 12);
            Check.same("none of another ring", house.why(Given.released(house, 0, Given.drain(0))), 0);
            Check.same("none of another service", house.why(Given.released(house, 1, Given.drain(2))), 0);
        });
        Check.test("14: one with the candidate is one with another artefact", () -> {
            ReleaseHouse house = withStable();
            int release = Given.released(house, 0, Given.share(0, 100), Given.drain(0), Given.await(0));
            house.pass(1);
            house.begin(0, 0);
            Check.same("of this release", house.why(release), 12);
        });
    }

    private static void order() {
        Check.test("14: 1 for a release that is overtaken", () -> {
            ReleaseHouse house = new ReleaseHouse();
            int release = Given.released(house, 0, Given.share(0, 5), Given.await(0));
            house.pass(1);
            house.release(Given.hotfix(house, 0), Given.program(house, Given.share(0, 5), Given.await(0)));
            house.die(false);
            house.pass(1);
            Check.same("13 goes ahead of what its step tells", house.why(release), 13);
            house.rise();
            house.pass(1);
            Check.same("overtaken", house.why(release), 1);
        });
        Check.test("14: 14 goes ahead of 13, that ahead of 1", () -> {
            ReleaseHouse house = new ReleaseHouse();
            int done = Given.released(house, 1, Given.await(0));
            int release = Given.released(house, 0, Given.share(0, 5), Given.await(9));
            house.pass(1);
            int hotfix = house.release(Given.hotfix(house, 0), Given.program(house, Given.share(0, 5), Given.await(9)));
            house.die(true);
            house.pass(1);
            Check.same("overtaken by a step that is not noted", house.state(release), 1);
            Check.same("overtaken", house.why(release), 13);
            Check.same("running", house.why(hotfix), 13);
            Check.same("done", house.why(done), 14);
            house.stop(hotfix);
            Check.same("stopped", house.why(hotfix), 14);
        });
        Check.test("14: the reasons of SHARE and PROMOTE, the first of them", () -> {
            for (int way = 0; way < 2; way++) {
                ReleaseHouse house = new ReleaseHouse();
                house.release(Given.withData(house, 0, 1, 0), Given.program(house, Given.share(0, 5), Given.await(99)));
                house.pass(1);
                hinder(house, 0, 0);
                int program = Given.program(house, way == 0 ? Given.share(0, 51) : Given.promote(0));
                int release = house.release(Given.withData(house, 0, 4, 2), program);
                Check.same("held", house.why(release), 2);
                house.hold(0);
                Check.same("frozen", house.why(release), 3);
                house.except(release, 1);
                Check.same("a rival", house.why(release), 4);
                house.begin(0, 100);
                house.stop(0);
                Check.same("no capacity", house.why(release), 5);
                house.zone(0, 0);
                Check.same("the proof", house.why(release), 6);
                house.end(0, 100);
                Check.same("the data", house.why(release), 7);
                house.expand(0, 2);
                Check.same("goes on", house.why(release), 0);
            }
        });
    }
}
