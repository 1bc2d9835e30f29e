/** Promises 20 to 27, sentence by sentence: the edges that the document names. */
public final class RingEdgesTest {
    private static final int NONE = ReleaseHouse.NONE;

    public static void main(String[] args) {
        ranges();
        stableAndCandidate();
        sees();
        places();
        seers();
        begin();
        sessionsGoOn();
        end();
        wayOut();
        Check.finish();
    }

    /** An easy artefact of the service is the stable one in all rings. */
    private static ReleaseHouse withStable(int service) {
        ReleaseHouse house = new ReleaseHouse();
        Given.released(house, service, Given.promote(0), Given.promote(1), Given.promote(2));
        house.pass(3);
        return house;
    }

    private static void ranges() {
        Refusal.World world = () -> withStable(0);
        Check.test("20: service: 0 to 3", () -> Refusal.range(world, 0, 3, (house, n) -> house.stable(n, 0)));
        Check.test("20: ring: 0 to 2", () -> Refusal.range(world, 0, 2, (house, n) -> house.stable(0, n)));
        Check.test("21: service: 0 to 3", () -> Refusal.range(world, 0, 3, (house, n) -> house.candidate(n, 0)));
        Check.test("21: ring: 0 to 2", () -> Refusal.range(world, 0, 2, (house, n) -> house.candidate(0, n)));
        Check.test("22: service: 0 to 3", () -> Refusal.range(world, 0, 3, (house, n) -> house.share(n, 0)));
        Check.test("22: ring: 0 to 2", () -> Refusal.range(world, 0, 2, (house, n) -> house.share(0, n)));
        Check.test("23: service: 0 to 3", () -> Refusal.range(world, 0, 3, (house, n) -> house.sees(n, 0)));
        Check.test("23: customer: 0 to 199", () -> Refusal.range(world, 0, 199, (house, n) -> house.sees(0, n)));
        Check.test("24: ring: 0 to 2", () -> Refusal.range(world, 0, 2, (house, n) -> house.seers(0, n)));
        Check.test("24: throws if there is no such artefact", () -> {
            Refusal.numbers(world, 1, (house, n) -> house.seers(n, 0));
            Refusal.noSuch("artefact and ring", world, house -> house.seers(1, 3));
        });
        Check.test("25: customer: 0 to 199", () -> Refusal.range(world, 0, 199, (house, n) -> house.begin(0, n)));
        Check.test("25: service: 0 to 3", () -> Refusal.range(RingEdgesTest::withAllStable, 0, 3,
                (house, n) -> house.begin(n, 0)));
        Check.test("26: customer: 0 to 199", () -> Refusal.range(RingEdgesTest::withSessionsAtEnds, 0, 199,
                (house, n) -> house.end(0, n)));
        Check.test("26: service: 0 to 3", () -> Refusal.range(RingEdgesTest::withSessionsAtEnds, 0, 3,
                (house, n) -> house.end(n, 0)));
        Check.test("27: service: 0 to 3", () -> Refusal.range(world, 0, 3, (house, n) -> house.wayOut(n, 0)));
        Check.test("27: ring: 0 to 2", () -> Refusal.range(world, 0, 2, (house, n) -> house.wayOut(0, n)));
    }

    /** In the ring 0 each service has a stable artefact of the same number. */
    private static ReleaseHouse withAllStable() {
        ReleaseHouse house = new ReleaseHouse();
        int program = Given.program(house, Given.promote(0));
        for (int service = 0; service < 4; service++) {
            Given.stable(house, service, program);
        }
        return house;
    }

    /** The customer 0 has a session of each service, the customer 199 one of the service 0. */
    private static ReleaseHouse withSessionsAtEnds() {
        ReleaseHouse house = withAllStable();
        for (int service = 0; service < 4; service++) {
            house.begin(service, 0);
        }
        house.release(0, Given.program(house, Given.promote(2)));
        house.pass(1);
        house.begin(0, 199);
        return house;
    }

    private static void stableAndCandidate() {
        Check.test("20: NONE if there is none", () -> {
            ReleaseHouse house = new ReleaseHouse();
            int release = Given.released(house, 3, Given.share(2, 100), Given.promote(2));
            Check.same("at first", house.stable(3, 2), NONE);
            house.pass(1);
            Check.same("a candidate alone", house.stable(3, 2), NONE);
            house.pass(1);
            Check.same("stable", house.stable(3, 2), 0);
            Check.same("in another ring", house.stable(3, 1), NONE);
            Check.same("of another service", house.stable(2, 2), NONE);
            Check.same("done", house.state(release), 2);
        });
        Check.test("21: NONE if there is none", () -> {
            ReleaseHouse house = new ReleaseHouse();
            Given.released(house, 3, Given.share(2, 1), Given.promote(2));
            Check.same("at first", house.candidate(3, 2), NONE);
            house.pass(1);
            Check.same("a candidate", house.candidate(3, 2), 0);
            Check.same("in another ring", house.candidate(3, 1), NONE);
            Check.same("of another service", house.candidate(2, 2), NONE);
            house.pass(1);
            Check.same("stable, without a candidate there", house.candidate(3, 2), NONE);
        });
        Check.test("22: 0 if there is none", () -> {
            ReleaseHouse house = new ReleaseHouse();
            Given.released(house, 3, Given.share(2, 1), Given.share(2, 100), Given.promote(2));
            Check.same("at first", house.share(3, 2), 0);
            house.pass(1);
            Check.same("the least", house.share(3, 2), 1);
            house.pass(1);
            Check.same("the most", house.share(3, 2), 100);
            house.pass(1);
            Check.same("without a candidate", house.share(3, 2), 0);
        });
        Check.test("21: a release that is done leaves its candidate", () -> {
            ReleaseHouse house = new ReleaseHouse();
            Given.released(house, 0, Given.share(0, 7));
            house.pass(5);
            Check.same("candidate", house.candidate(0, 0), 0);
            Check.same("share", house.share(0, 0), 7);
        });
    }

    private static int ringOf(int customer) {
        return customer % 10 == 0 ? 0 : customer % 10 < 4 ? 1 : 2;
    }

    private static void sees() {
        Check.test("23: NONE if nothing", () -> {
            ReleaseHouse house = new ReleaseHouse();
            Check.same("nothing is there", house.sees(0, 0), NONE);
            Given.released(house, 0, Given.share(0, 37));
            house.pass(1);
            Check.same("not below the share, and none is stable", house.sees(0, 110), NONE);
        });
        Check.test("23: in the ring 0, if the number divided by 10 leaves 0, in 1, if 1 to 3, otherwise in 2", () -> {
            for (int ring = 0; ring < 3; ring++) {
                ReleaseHouse house = new ReleaseHouse();
                Given.released(house, 0, Given.promote(ring));
                house.pass(1);
                for (int customer : new int[] {0, 1, 2, 3, 4, 5, 9, 10, 11, 13, 14, 99, 100, 101, 190, 193, 194, 199}) {
                    int due = ringOf(customer) == ring ? 0 : NONE;
                    Check.same("customer " + customer + ", ring " + ring, house.sees(0, customer), due);
                }
            }
        });
        Check.test("23: the candidate, if the place is below its share; else the stable one", () -> {
            for (int share : new int[] {1, 2, 50, 99, 100}) {
                ReleaseHouse house = withStable(0);
                int next = Given.easy(house, 0);
                house.release(next, Given.program(house, Given.share(0, share)));
                house.pass(1);
                for (int customer = 0; customer < 200; customer += 10) {
                    int place = 37 * customer % 100;
                    Check.same("place " + place + ", share " + share,
                            house.sees(0, customer), place < share ? next : 0);
                }
            }
        });
        Check.test("23: in the customer's ring", () -> {
            ReleaseHouse house = withStable(0);
            Given.released(house, 0, Given.share(1, 100), Given.await(9));
            house.pass(1);
            Check.same("ring 0", house.sees(0, 0), 0);
            Check.same("ring 1", house.sees(0, 3), 1);
            Check.same("ring 2", house.sees(0, 4), 0);
        });
        Check.test("23: the artefact of a session, if there is one", () -> {
            ReleaseHouse house = withStable(0);
            house.begin(0, 0);
            Given.released(house, 0, Given.share(0, 100), Given.promote(0));
            house.pass(1);
            Check.same("ahead of the candidate", house.sees(0, 0), 0);
            house.pass(1);
            Check.same("ahead of the stable one", house.sees(0, 0), 0);
            Check.same("of another service", house.sees(1, 0), NONE);
        });
    }

    /** Whether a customer sees the candidate with a share of one more than the place, and not with the place. */
    private static void hasPlace(int service, int customer, int place) {
        for (int more = 0; more < 2; more++) {
            if (place + more > 0) {
                ReleaseHouse house = new ReleaseHouse();
                Given.released(house, service, Given.share(ringOf(customer), place + more));
                house.pass(1);
                Check.same("customer " + customer + " of service " + service + ", share " + (place + more),
                        house.sees(service, customer), more == 1 ? 0 : NONE);
            }
        }
    }

    private static void places() {
        Check.test("23: the remainder by 100 of 37 times the customer, plus 11 times the service", () -> {
            hasPlace(0, 0, 0);
            hasPlace(3, 0, 33);
            hasPlace(0, 1, 37);
            hasPlace(0, 27, 99);
            hasPlace(1, 27, 10);
            hasPlace(3, 21, 10);
            hasPlace(0, 100, 0);
            hasPlace(3, 199, 96);
            hasPlace(1, 197, 0);
            hasPlace(2, 101, 59);
        });
        Check.test("23: a share that they stay in as it grows", () -> {
            int[] shares = {1, 2, 49, 50, 51, 99, 100};
            for (int customer = 4; customer < 200; customer += 15) {
                ReleaseHouse house = new ReleaseHouse();
                int program = house.program();
                for (int share : shares) {
                    house.step(program, 0, ringOf(customer), share);
                }
                house.release(Given.easy(house, 2), program);
                boolean saw = false;
                for (int i = 0; i < shares.length; i++) {
                    house.pass(1);
                    boolean isSeen = house.sees(2, customer) == 0;
                    Check.no("customer " + customer + " goes at " + shares[i], saw && !isSeen);
                    saw = isSeen;
                }
                Check.yes("all see it at 100", saw);
            }
        });
    }

    private static void seers() {
        Check.test("24: counts the customers of a ring", () -> {
            int[] due = {20, 60, 120};
            for (int ring = 0; ring < 3; ring++) {
                Check.same("all of the ring " + ring, withStable(3).seers(0, ring), due[ring]);
            }
        });
        Check.test("24: who see an artefact: none", () -> {
            ReleaseHouse house = new ReleaseHouse();
            Given.easy(house, 0);
            Check.same("nothing is there", house.seers(0, 0), 0);
            Given.released(house, 0, Given.promote(0));
            house.pass(1);
            Check.same("another one is", house.seers(0, 0), 0);
            Check.same("that one", house.seers(1, 0), 20);
            Check.same("in another ring", house.seers(1, 1), 0);
        });
        Check.test("24: by the least and the most share", () -> {
            int[][] rows = {{0, 1, 2}, {0, 100, 20}, {1, 1, 1}, {2, 1, 0}, {2, 100, 120}};
            for (int[] row : rows) {
                ReleaseHouse house = new ReleaseHouse();
                Given.released(house, 0, Given.share(row[0], row[1]));
                house.pass(1);
                int due = 0;
                for (int customer = 0; customer < 200; customer++) {
                    due += ringOf(customer) == row[0] && 37 * customer % 100 < row[1] ? 1 : 0;
                }
                Check.same("ring " + row[0] + ", share " + row[1], house.seers(0, row[0]), due);
            }
        });
        Check.test("24: those with a session are counted by that", () -> {
            ReleaseHouse house = withStable(0);
            house.begin(0, 0);
            house.begin(0, 1);
            Given.released(house, 0, Given.promote(0));
            house.pass(1);
            Check.same("one of the ring 0", house.seers(0, 0), 1);
            Check.same("all others", house.seers(1, 0), 19);
            Check.same("the ring 1 as it was", house.seers(0, 1), 60);
        });
    }

    /** There are so many sessions of the services 0 and 1, in all three rings. */
    private static ReleaseHouse withSessions(int count) {
        ReleaseHouse house = withStable(0);
        house.release(Given.easy(house, 1), 0);
        house.pass(3);
        for (int i = 0; i < count; i++) {
            Check.same("the artefact", house.begin(i % 2, 100 + i), i % 2);
        }
        return house;
    }

    private static void begin() {
        Check.test("25: throws if the customer has a session of the service", () -> {
            Refusal.badState("the same", () -> withSessions(1), house -> house.begin(0, 100));
            Refusal.badState("though another one is seen by others", () -> {
                ReleaseHouse house = withSessions(1);
                Given.released(house, 0, Given.promote(0));
                house.pass(1);
                return house;
            }, house -> house.begin(0, 100));
            Check.same("of another service", withSessions(1).begin(1, 100), 1);
            Check.same("another customer", withSessions(1).begin(0, 101), 0);
        });
        Check.test("25: throws if the customer sees nothing of it", () -> {
            Refusal.badState("nothing is there", ReleaseHouse::new, house -> house.begin(0, 0));
            Refusal.badState("not below the share", () -> {
                ReleaseHouse house = new ReleaseHouse();
                Given.released(house, 0, Given.share(0, 70));
                house.pass(1);
                return house;
            }, house -> house.begin(0, 10));
        });
        Check.test("25: throws if there are 40 sessions", () -> {
            Check.same("the 40th", withSessions(39).begin(1, 0), 1);
            Refusal.badState("of all services", () -> withSessions(40), house -> house.begin(1, 0));
            ReleaseHouse house = withSessions(40);
            house.end(0, 100);
            Check.same("there are 39 again", house.begin(1, 0), 1);
            Check.badState("and 40", () -> house.begin(0, 0));
        });
        Check.test("25: of several exceptions it is the first one", () -> {
            Refusal.badArgument("customer and 40", () -> withSessions(40), house -> house.begin(0, 200));
            Refusal.badArgument("service and nothing", ReleaseHouse::new, house -> house.begin(4, 0));
        });
        Check.test("25: a session begins with what the customer sees", () -> {
            ReleaseHouse house = withStable(0);
            Given.released(house, 0, Given.share(0, 50), Given.await(9));
            house.pass(1);
            Check.same("the candidate", house.begin(0, 0), 1);
            Check.same("the stable one", house.begin(0, 10), 0);
        });
    }

    private static void sessionsGoOn() {
        Check.test("25: and goes on with it until it ends", () -> {
            ReleaseHouse house = withStable(0);
            int release = Given.released(house, 0, Given.share(0, 50), Given.await(9));
            house.pass(1);
            house.begin(0, 0);
            house.begin(0, 10);
            house.stop(release);
            Check.same("the candidate is lost", house.sees(0, 0), 1);
            Given.released(house, 0, Given.promote(0));
            house.pass(1);
            Check.same("another one is stable", house.sees(0, 10), 0);
            Check.same("what the first one began with", house.end(0, 0), 1);
            Check.same("what the other one began with", house.end(0, 10), 0);
        });
    }

    private static void end() {
        Check.test("26: throws if the customer has no session of the service", () -> {
            Refusal.badState("none at all", ReleaseHouse::new, house -> house.end(0, 0));
            Refusal.badState("of another service", () -> withSessions(1), house -> house.end(1, 100));
            Refusal.badState("another customer", () -> withSessions(1), house -> house.end(0, 101));
            Refusal.badState("it has ended", () -> {
                ReleaseHouse house = withSessions(1);
                house.end(0, 100);
                return house;
            }, house -> house.end(0, 100));
        });
        Check.test("26: of several exceptions it is the first one",
                () -> Refusal.badArgument("customer and no session", ReleaseHouse::new, house -> house.end(0, 200)));
        Check.test("26: sees then what others see", () -> {
            ReleaseHouse house = withSessions(1);
            Given.released(house, 0, Given.promote(0));
            house.pass(1);
            Check.same("what it began with", house.end(0, 100), 0);
            Check.same("the stable one", house.sees(0, 100), 2);
            Check.same("begins anew", house.begin(0, 100), 2);
        });
    }

    private static void wayOut() {
        Check.test("27: NONE if there is no stable one", () -> {
            ReleaseHouse house = new ReleaseHouse();
            Given.easy(house, 0);
            Check.same("nothing is there", house.wayOut(0, 0), NONE);
            Given.released(house, 0, Given.share(0, 5));
            Given.easy(house, 0);
            house.pass(1);
            Check.same("a candidate alone", house.wayOut(0, 0), NONE);
        });
        Check.test("27: NONE if there is none", () -> {
            ReleaseHouse house = withStable(0);
            Check.same("no other artefact", house.wayOut(0, 0), NONE);
            Given.easy(house, 1);
            Check.same("one of another service", house.wayOut(0, 0), NONE);
            Given.withData(house, 0, 2, 1);
            Check.same("one that may not go live, by the proof", house.wayOut(0, 0), NONE);
            Given.withData(house, 0, 3, 1);
            Check.same("likewise by the data", house.wayOut(0, 0), NONE);
        });
        Check.test("27: the oldest one of its artefacts that are newer than the stable one there", () -> {
            ReleaseHouse house = new ReleaseHouse();
            Given.easy(house, 0);
            Given.stable(house, 0, Given.program(house, Given.promote(1)));
            Check.same("an older one is none", house.wayOut(0, 1), NONE);
            Given.withData(house, 0, 2, 1);
            Given.easy(house, 0);
            Given.easy(house, 0);
            Check.same("the oldest that may", house.wayOut(0, 1), 3);
            house.release(3, 0);
            house.pass(1);
            Check.same("newer than that one", house.wayOut(0, 1), 4);
            Check.same("no stable one in another ring", house.wayOut(0, 0), NONE);
        });
        Check.test("27: be it held, frozen or full", () -> {
            ReleaseHouse house = withStable(0);
            int newer = Given.easy(house, 0);
            house.hold(0);
            for (int ring = 0; ring < 3; ring++) {
                house.freeze(ring, 0, 20000, 3);
                house.zone(ring, 0);
                house.zone(ring, 1);
                house.zone(ring, 2);
            }
            Check.same("the way out", house.wayOut(0, 2), newer);
        });
        Check.test("27: and may go live or are live", () -> {
            ReleaseHouse house = withStable(0);
            int kept = Given.released(house, 1, Given.share(0, 5), Given.await(99));
            house.pass(1);
            int needy = house.artefact(0, 0, 255, 1, 1, 255, 0, false, true);
            house.release(needy, Given.program(house, Given.share(0, 5), Given.await(99)));
            Check.same("may go live", house.wayOut(0, 2), needy);
            house.pass(1);
            house.stop(kept);
            Check.same("is live, though what it needs is not", house.wayOut(0, 2), needy);
            house.stop(2);
            Check.same("is not any more", house.wayOut(0, 2), NONE);
        });
    }
}
