/** Promises 1 to 6, sentence by sentence: the edges that the document names. */
public final class ArtefactEdgesTest {
    private static final int NONE = ReleaseHouse.NONE;

    public static void main(String[] args) {
        newObject();
        artefact();
        artefactSets();
        forbids();
        isLive();
        mayGo();
        mayGoByData();
        forbidden();
        Check.finish();
    }

    private static void newObject() {
        Check.test("1: begins with nothing released", ArtefactEdgesTest::nothingReleased);
        Check.test("1: nothing is made as it begins", ArtefactEdgesTest::nothingMade);
        Check.test("1: a controller that is alive", () -> {
            Check.no("dead", new ReleaseHouse().isDead());
            Refusal.badState("no next one", ReleaseHouse::new, ReleaseHouse::rise);
        });
        Check.test("1: it is minute 0 at first", () -> {
            Refusal.badArgument("behind now", ReleaseHouse::new, house -> house.train(0));
            Check.same("the first minute behind it", new ReleaseHouse().train(1), 0);
        });
        Check.test("1: an object is used for at most 512 calls", () -> {
            ReleaseHouse house = new ReleaseHouse();
            for (int i = 1; i < 512; i++) {
                house.setPlan(i % 200, i % 7);
            }
            Check.same("the last one of them", house.program(), 0);
        });
        Check.test("1: NONE = -1", () -> Check.same("NONE", NONE, -1));
    }

    private static void nothingReleased() {
        ReleaseHouse house = new ReleaseHouse();
        for (int service = 0; service < 4; service++) {
            for (int ring = 0; ring < 3; ring++) {
                Check.same("stable", house.stable(service, ring), NONE);
                Check.same("candidate", house.candidate(service, ring), NONE);
                Check.same("share", house.share(service, ring), 0);
                Check.same("way out", house.wayOut(service, ring), NONE);
                Check.same("capital", house.capital(service, ring), 1.0);
                Check.same("verdict", house.verdict(service, ring), 0);
            }
            Check.same("the first customer sees", house.sees(service, 0), NONE);
            Check.same("the last customer sees", house.sees(service, 199), NONE);
        }
        Check.same("effects", house.effects(), 0);
        Check.same("forbidden", house.forbidden(), 0);
    }

    private static void nothingMade() {
        ReleaseHouse house = new ReleaseHouse();
        house.artefact(0, 0, 0, 0, NONE, 1, 0, false, true);
        house.program();
        Refusal.noSuch("artefact", ReleaseHouse::new, other -> other.isLive(0));
        Refusal.noSuch("program", ReleaseHouse::new, other -> other.step(0, 1, 0, 0));
        Refusal.noSuch("release", ReleaseHouse::new, other -> other.state(0));
        Refusal.noSuch("train", ReleaseHouse::new, other -> other.taken(0));
        Refusal.noSuch("experiment", ReleaseHouse::new, other -> other.arm(0, 0));
    }

    private static ReleaseHouse withThirty() {
        ReleaseHouse house = new ReleaseHouse();
        for (int i = 0; i < 30; i++) {
            Check.same("its number", Given.easy(house, i % 4), i);
        }
        return house;
    }

    private static void artefact() {
        Refusal.World none = ReleaseHouse::new;
        Check.test("2: artefacts are numbered from 0, at most 30", () -> {
            Check.no("the last one is there", withThirty().isLive(29));
            Refusal.badState("there are 30", ArtefactEdgesTest::withThirty, house -> Given.easy(house, 0));
        });
        Check.test("2: of several exceptions it is the first one", () -> Refusal.badArgument("argument and state",
                ArtefactEdgesTest::withThirty, house -> Given.easy(house, 4)));
        Check.test("2: service: 0 to 3", () -> Refusal.range(none, 0, 3,
                (house, n) -> house.artefact(n, 0, 0, 0, NONE, 1, 0, false, true)));
        Check.test("2: author: 0 to 5", () -> Refusal.range(none, 0, 5,
                (house, n) -> house.artefact(0, n, 0, 0, NONE, 1, 0, false, true)));
        Check.test("2: keeps: a set, 0 to 255", () -> Refusal.range(none, 0, 255,
                (house, n) -> house.artefact(0, 0, n, 0, NONE, 1, 0, false, true)));
        Check.test("2: needs: likewise", () -> Refusal.range(none, 0, 255,
                (house, n) -> house.artefact(0, 0, 0, n, n == 0 ? NONE : 1, 1, 0, false, true)));
        Check.test("2: of: the service of which it needs them", () -> {
            Refusal.range(none, 1, 3, (house, n) -> house.artefact(0, 0, 0, 1, n, 1, 0, false, true));
            Refusal.range(none, 0, 2, (house, n) -> house.artefact(3, 0, 0, 1, n, 1, 0, false, true));
        });
        Check.test("2: of: another one", () -> {
            for (int service = 0; service < 4; service++) {
                int own = service;
                Refusal.badArgument("its own, " + own, none,
                        house -> house.artefact(own, 0, 0, 255, own, 1, 0, false, true));
            }
        });
        Check.test("2: of: NONE, just if needs is 0", () -> {
            Refusal.range(none, NONE, NONE, (house, n) -> house.artefact(0, 0, 0, 0, n, 1, 0, false, true));
            Refusal.badArgument("NONE with one thing", none,
                    house -> house.artefact(0, 0, 0, 1, NONE, 1, 0, false, true));
            Refusal.badArgument("NONE with all", none,
                    house -> house.artefact(0, 0, 0, 255, NONE, 1, 0, false, true));
            Refusal.badArgument("another one without a thing", none,
                    house -> house.artefact(0, 0, 0, 0, 3, 1, 0, false, true));
        });
    }

    private static void artefactSets() {
        Refusal.World none = ReleaseHouse::new;
        Check.test("2: reads: a set of schemas, 1 to 255", () -> {
            Refusal.range(none, 1, 255, (house, n) -> house.artefact(0, 0, 0, 0, NONE, n, 0, false, true));
            Refusal.badArgument("a ninth schema", none,
                    house -> house.artefact(0, 0, 0, 0, NONE, 257, 0, false, true));
            Refusal.badArgument("all and more", none,
                    house -> house.artefact(0, 0, 0, 0, NONE, -1, 0, false, true));
        });
        Check.test("2: writes: a schema of these", () -> Refusal.range(none, 0, 7,
                (house, n) -> house.artefact(0, 0, 0, 0, NONE, 255, n, false, true)));
        Check.test("2: throws if writes is not read", () -> {
            for (int schema = 0; schema < 8; schema++) {
                int s = schema;
                Check.same("reads this alone",
                        new ReleaseHouse().artefact(0, 0, 0, 0, NONE, 1 << s, s, false, true), 0);
                Refusal.badArgument("reads all but " + s, none,
                        house -> house.artefact(0, 0, 0, 0, NONE, 255 - (1 << s), s, false, true));
            }
            Refusal.badArgument("what is no schema", none,
                    house -> house.artefact(0, 0, 0, 0, NONE, 1, 32, false, true));
        });
    }

    private static int reads(ReleaseHouse house, int reads, int writes) {
        return house.artefact(0, 0, 0, 0, NONE, reads, writes, false, true);
    }

    private static int needs(ReleaseHouse house, int service, int keeps, int needs, int of) {
        return house.artefact(service, 0, keeps, needs, of, 1, 0, false, true);
    }

    private static int why(int readsOfFirst, int writesOfFirst, int readsOfOther, int writesOfOther) {
        ReleaseHouse house = new ReleaseHouse();
        int first = reads(house, readsOfFirst, writesOfFirst);
        return house.forbids(first, reads(house, readsOfOther, writesOfOther));
    }

    private static void forbids() {
        Refusal.World two = () -> {
            ReleaseHouse house = new ReleaseHouse();
            Given.easy(house, 0);
            Given.easy(house, 1);
            return house;
        };
        Check.test("3: throws if there is no such artefact, of both", () -> {
            Refusal.numbers(two, 2, (house, n) -> house.forbids(n, 0));
            Refusal.numbers(two, 2, (house, n) -> house.forbids(0, n));
            Refusal.noSuch("neither", two, house -> house.forbids(2, 2));
        });
        Check.test("3: of one service may, if each reads what the other one writes", () -> {
            Check.same("each reads no more than these", why(129, 0, 129, 7), 0);
            Check.same("both write the same", why(1, 0, 1, 0), 0);
            Check.same("one reads less than the other one", why(129, 7, 255, 0), 0);
        });
        Check.test("3: 1 the first one does not read what the second one writes", () -> {
            Check.same("all but that", why(127, 0, 129, 7), 1);
            Check.same("the lowest schema", why(254, 1, 255, 0), 1);
        });
        Check.test("3: 2 the other way round", () -> Check.same("all but that", why(129, 7, 127, 0), 2));
        Check.test("3: the first of these", () -> {
            Check.same("neither reads the other one's", why(1, 0, 2, 1), 1);
            Check.same("the other way round too", why(2, 1, 1, 0), 1);
            ReleaseHouse house = new ReleaseHouse();
            int one = needs(house, 0, 0, 1, 1);
            int other = needs(house, 1, 0, 1, 0);
            Check.same("each needs of the other one", house.forbids(one, other), 3);
            Check.same("and the other way round", house.forbids(other, one), 3);
        });
        Check.test("3: with itself", () -> {
            ReleaseHouse house = new ReleaseHouse();
            Check.same("reads one", house.forbids(reads(house, 128, 7), 0), 0);
            Check.same("needs", house.forbids(needs(house, 1, 0, 255, 0), 1), 0);
        });
        Check.test("3: 3 needs something that the second one does not keep, 4 the other way round",
                ArtefactEdgesTest::forbidsByNeeds);
        Check.test("3: what the one needs, if it is of that", () -> {
            ReleaseHouse house = new ReleaseHouse();
            int needy = needs(house, 1, 0, 255, 0);
            int foreign = needs(house, 2, 0, 0, NONE);
            Check.same("of a third service", house.forbids(needy, foreign), 0);
            Check.same("the other way round", house.forbids(foreign, needy), 0);
            Check.same("of its own service", house.forbids(needy, needs(house, 1, 0, 0, NONE)), 0);
        });
        Check.test("3: two of unlike services read and write what they like", () -> {
            ReleaseHouse house = new ReleaseHouse();
            int first = Given.withData(house, 0, 1, 0);
            Check.same("no schema in common", house.forbids(first, Given.withData(house, 1, 128, 7)), 0);
        });
    }

    private static void forbidsByNeeds() {
        int[][] rows = {
            {255, 255, 0}, {127, 255, 3}, {254, 255, 3}, {128, 128, 0}, {127, 128, 3}, {0, 1, 3}, {255, 1, 0},
        };
        for (int[] row : rows) {
            ReleaseHouse house = new ReleaseHouse();
            int keeper = needs(house, 0, row[0], 0, NONE);
            int needy = needs(house, 3, 0, row[1], 0);
            String what = "needs " + row[1] + ", is kept " + row[0];
            Check.same(what, house.forbids(needy, keeper), row[2]);
            Check.same(what + ", the other way round", house.forbids(keeper, needy), row[2] == 0 ? 0 : 4);
        }
    }

    private static void isLive() {
        Refusal.World two = () -> {
            ReleaseHouse house = new ReleaseHouse();
            Given.easy(house, 0);
            Given.easy(house, 0);
            return house;
        };
        Check.test("4: throws if there is no such artefact", () -> Refusal.numbers(two, 2, ReleaseHouse::isLive));
        Check.test("4: live, if it is stable in some ring", () -> {
            for (int ring = 0; ring < 3; ring++) {
                ReleaseHouse house = two.make();
                Check.no("made only", house.isLive(1));
                house.release(1, Given.program(house, Given.promote(ring)));
                Check.no("released only", house.isLive(1));
                house.pass(1);
                Check.yes("in the ring " + ring, house.isLive(1));
                Check.no("the other one", house.isLive(0));
            }
        });
        Check.test("4: live, if it is a candidate in some ring", () -> {
            for (int ring = 0; ring < 3; ring++) {
                ReleaseHouse house = two.make();
                house.release(0, Given.program(house, Given.share(ring, 1), Given.await(9)));
                house.pass(1);
                Check.yes("with the least share", house.isLive(0));
                house.stop(0);
                Check.no("the only one is lost", house.isLive(0));
            }
        });
        Check.test("4: live, as long as it is so in one of two rings", () -> {
            ReleaseHouse house = two.make();
            int both = Given.program(house, Given.promote(0), Given.promote(2));
            house.release(0, both);
            house.pass(2);
            house.release(1, both);
            house.pass(1);
            Check.yes("in the last one", house.isLive(0));
            house.pass(1);
            Check.no("in none", house.isLive(0));
        });
        Check.test("4: live, if it is in a session", () -> {
            ReleaseHouse house = two.make();
            house.release(0, Given.program(house, Given.share(2, 100), Given.await(9)));
            house.pass(1);
            house.begin(0, 199);
            house.begin(0, 4);
            house.stop(0);
            Check.yes("in two", house.isLive(0));
            house.end(0, 199);
            Check.yes("in one", house.isLive(0));
            house.end(0, 4);
            Check.no("in none", house.isLive(0));
        });
    }

    /** The artefact 0 keeps the thing 0, reads the schemas 0 and 1, and is live by the way given. */
    private static ReleaseHouse withLive(int way) {
        ReleaseHouse house = new ReleaseHouse();
        house.artefact(0, 0, 1, 0, NONE, 3, 0, false, true);
        house.release(0, Given.program(house, way == 0 ? Given.promote(2) : Given.share(2, 100), Given.await(99)));
        house.pass(1);
        if (way == 2) {
            house.begin(0, 4);
            house.stop(0);
        }
        return house;
    }

    private static void mayGo() {
        Check.test("5: throws if there is no such artefact",
                () -> Refusal.numbers(() -> withLive(0), 1, ReleaseHouse::mayGo));
        Check.test("5: 0 if it may", () -> {
            Check.same("nothing is live", new ReleaseHouse().artefact(0, 0, 0, 0, NONE, 1, 0, false, true), 0);
            for (int way = 0; way < 3; way++) {
                ReleaseHouse house = withLive(way);
                Check.same("gets on", house.mayGo(Given.withData(house, 0, 1, 0)), 0);
            }
        });
        Check.test("5: 6 by the proof, with all that are live", () -> {
            for (int way = 0; way < 3; way++) {
                ReleaseHouse house = withLive(way);
                Check.same("does not read", house.mayGo(Given.withData(house, 0, 254, 1)), 6);
                Check.same("is not read", house.mayGo(Given.withData(house, 0, 255, 2)), 6);
                Check.same("is not kept", house.mayGo(house.artefact(1, 0, 0, 2, 0, 1, 0, false, true)), 6);
                Check.same("is kept", house.mayGo(house.artefact(1, 0, 0, 1, 0, 1, 0, false, true)), 0);
            }
        });
        Check.test("5: 6, as long as one is live", () -> {
            ReleaseHouse house = withLive(2);
            int blind = Given.withData(house, 0, 2, 1);
            house.expand(0, 1);
            Check.same("in a session", house.mayGo(blind), 6);
            house.end(0, 4);
            Check.same("in none; nothing is stored", house.mayGo(blind), 0);
        });
        Check.test("5: 6 goes ahead of 7", () -> {
            ReleaseHouse house = withLive(0);
            Check.same("neither read nor open", house.mayGo(Given.withData(house, 0, 254, 2)), 6);
        });
        Check.test("5: 0 if it is live, though what it needs is not", () -> {
            ReleaseHouse house = withLive(1);
            int needy = house.artefact(1, 0, 0, 1, 0, 1, 0, false, true);
            house.release(needy, Given.program(house, Given.promote(0)));
            house.pass(1);
            house.stop(0);
            Check.no("what it needs", house.isLive(0));
            Check.same("it is live", house.mayGo(needy), 0);
        });
    }

    private static void mayGoByData() {
        Check.test("5: 7, if the schema that it writes is not open", () -> {
            ReleaseHouse house = new ReleaseHouse();
            Check.same("0 is open", house.mayGo(Given.withData(house, 3, 255, 0)), 0);
            int last = Given.withData(house, 3, 255, 7);
            Check.same("7 is not", house.mayGo(last), 7);
            house.expand(2, 7);
            Check.same("nor of its service", house.mayGo(last), 7);
            house.expand(3, 7);
            Check.same("it is now", house.mayGo(last), 0);
            house.contract(3, 7);
            Check.same("not any more", house.mayGo(last), 7);
        });
        Check.test("5: 7, if it does not read all that are stored in its service", () -> {
            ReleaseHouse house = withLive(1);
            int blind = Given.withData(house, 0, 254, 1);
            house.expand(0, 1);
            house.stop(0);
            Check.same("no unit", house.mayGo(blind), 0);
            house.release(0, 0);
            house.pass(2);
            house.stop(1);
            Check.same("one unit", house.units(0, 0), 1);
            Check.same("is stored", house.mayGo(blind), 7);
            Check.same("in its service", house.mayGo(Given.withData(house, 1, 1, 0)), 0);
            house.migrate(0, 0, 1);
            house.pass(1);
            house.halt(0);
            Check.same("no unit any more", house.mayGo(blind), 0);
        });
        Check.test("5: 7, if it does not read that to which a migration runs", () -> {
            ReleaseHouse house = new ReleaseHouse();
            int blind = Given.withData(house, 0, 127, 0);
            house.expand(0, 7);
            house.migrate(0, 1, 7);
            Check.same("it runs, and nothing is stored", house.mayGo(blind), 7);
            Check.same("of another service", house.mayGo(Given.withData(house, 1, 127, 0)), 0);
            Check.same("that from which it runs is no matter", house.mayGo(Given.withData(house, 0, 253, 0)), 0);
            house.halt(0);
            Check.same("it does not run any more", house.mayGo(blind), 0);
        });
        Check.test("5: 7, if it needs something, and no artefact of that service is live", () -> {
            ReleaseHouse house = new ReleaseHouse();
            int kept = Given.easy(house, 3);
            int needy = house.artefact(0, 0, 0, 128, 3, 1, 0, false, true);
            Check.same("none is live", house.mayGo(needy), 7);
            Check.same("one that needs nothing", house.mayGo(Given.easy(house, 0)), 0);
            Given.stable(house, 2, Given.program(house, Given.promote(0)));
            Check.same("one of another service", house.mayGo(needy), 7);
            house.release(kept, 0);
            house.pass(1);
            Check.same("one is live", house.mayGo(needy), 0);
        });
        Check.test("5: what it needs may be live in a session alone", () -> {
            ReleaseHouse house = withLive(2);
            int needy = house.artefact(1, 0, 0, 1, 0, 1, 0, false, true);
            Check.same("in a session", house.mayGo(needy), 0);
            house.end(0, 4);
            Check.same("in none", house.mayGo(needy), 7);
        });
    }

    private static void forbidden() {
        Check.test("6: how many pairs of live artefacts may not live together", () -> {
            ReleaseHouse house = new ReleaseHouse();
            Check.same("no artefact", house.forbidden(), 0);
            Given.withData(house, 0, 1, 0);
            Given.withData(house, 0, 2, 1);
            house.expand(0, 1);
            Check.same("none is live", house.forbidden(), 0);
            int program = Given.program(house, Given.promote(0));
            house.release(0, program);
            house.release(1, program);
            house.pass(1);
            Check.yes("one is live", house.isLive(0) && !house.isLive(1));
            Check.same("no pair", house.forbidden(), 0);
        });
        Check.test("6: pairs that may are none of these", () -> {
            ReleaseHouse house = new ReleaseHouse();
            int program = Given.program(house, Given.promote(0), Given.promote(1));
            for (int service = 0; service < 4; service++) {
                house.release(Given.easy(house, service), program);
            }
            house.release(Given.easy(house, 0), Given.program(house, Given.share(2, 100)));
            house.pass(2);
            Check.yes("five are live", house.isLive(0) && house.isLive(3) && house.isLive(4));
            Check.same("no pair", house.forbidden(), 0);
        });
        Check.test("6: at no moment do two live together that the proof forbids", () -> {
            ReleaseHouse house = withLive(2);
            house.expand(0, 1);
            int program = Given.program(house, Given.promote(2), Given.await(99));
            int blind = Given.withData(house, 0, 2, 1);
            int release = house.release(blind, program);
            house.pass(1);
            Check.same("one is in a session", house.forbidden() + house.why(release), 6);
            house.end(0, 4);
            house.pass(1);
            Check.same("the other one is stable", house.stable(0, 2), blind);
            Check.same("no pair", house.forbidden(), 0);
        });
    }
}
