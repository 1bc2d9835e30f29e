/** Promises 28 to 32, sentence by sentence: the edges that the document names. */
public final class DataEdgesTest {
    private static final int NONE = ReleaseHouse.NONE;

    public static void main(String[] args) {
        expand();
        migrate();
        migrateIsRefused();
        halt();
        contract();
        units();
        Check.finish();
    }

    private static int released(ReleaseHouse house, int artefact, int[]... steps) {
        return house.release(artefact, Given.program(house, steps));
    }

    /** All schemas of the services 0 and 3 are open. */
    private static ReleaseHouse withAllOpen() {
        ReleaseHouse house = new ReleaseHouse();
        for (int schema = 1; schema < 8; schema++) {
            house.expand(0, schema);
            house.expand(3, schema);
        }
        return house;
    }

    /** So many units of the schema 0 of the service 0 are stored, and nothing of it is live. */
    private static ReleaseHouse withUnits(int count) {
        ReleaseHouse house = withAllOpen();
        released(house, Given.easy(house, 0), Given.share(0, 5), Given.await(200));
        house.pass(1 + count);
        house.stop(0);
        Check.same("units", house.units(0, 0), count);
        return house;
    }

    private static void expand() {
        Check.test("28: service: 0 to 3",
                () -> Refusal.range(ReleaseHouse::new, 0, 3, (house, n) -> house.expand(n, 1)));
        Check.test("28: schema: 0 to 7", () -> Refusal.range(() -> {
            ReleaseHouse house = new ReleaseHouse();
            house.contract(0, 0);
            return house;
        }, 0, 7, (house, n) -> house.expand(0, n)));
        Check.test("28: schemas that are open, at first the schema 0", () -> {
            for (int service = 0; service < 4; service++) {
                int s = service;
                Refusal.badState("0 is open", ReleaseHouse::new, house -> house.expand(s, 0));
                ReleaseHouse house = new ReleaseHouse();
                for (int schema = 1; schema < 8; schema++) {
                    house.expand(s, schema);
                }
            }
        });
        Check.test("28: throws if it is open", () -> {
            for (int schema = 0; schema < 8; schema++) {
                int s = schema;
                Refusal.badState("opened", DataEdgesTest::withAllOpen, house -> house.expand(3, s));
            }
            ReleaseHouse house = withAllOpen();
            house.contract(3, 7);
            house.expand(3, 7);
            house.expand(2, 7);
            Check.badState("opened anew", () -> house.expand(3, 7));
        });
        Check.test("28: of several exceptions it is the first one",
                () -> Refusal.badArgument("service and open", ReleaseHouse::new, house -> house.expand(4, 0)));
    }

    private static void migrate() {
        Refusal.World open = DataEdgesTest::withAllOpen;
        Check.test("29: service: 0 to 3", () -> Refusal.range(open, 0, 3, (house, n) -> house.migrate(n, 1, 0)));
        Check.test("29: from: 0 to 7", () -> Refusal.range(() -> {
            ReleaseHouse house = new ReleaseHouse();
            house.expand(0, 3);
            return house;
        }, 0, 7, (house, n) -> house.migrate(0, n, 3)));
        Check.test("29: to: 0 to 7", () -> Refusal.range(open, 0, 7, (house, n) -> house.migrate(0, 3, n)));
        Check.test("29: to: another one", () -> {
            for (int schema = 0; schema < 8; schema++) {
                int s = schema;
                Refusal.badArgument("both the same, " + s, open, house -> house.migrate(0, s, s));
            }
        });
        Check.test("29: takes up to 5 units of the one schema and adds them to the other one", () -> {
            for (int units : new int[] {0, 1, 4, 5, 6, 10, 11}) {
                ReleaseHouse house = withUnits(units);
                house.migrate(0, 0, 7);
                house.pass(1);
                Check.same("the rest of " + units, house.units(0, 0), Math.max(0, units - 5));
                Check.same("added of " + units, house.units(0, 7), Math.min(5, units));
                house.pass(2);
                Check.same("all of " + units, house.units(0, 7), Math.min(15, units));
                Check.same("none is left of " + units, house.units(0, 0), 0);
            }
        });
        Check.test("29: then: what is added in that minute is migrated with it", () -> {
            ReleaseHouse house = withAllOpen();
            released(house, Given.easy(house, 0), Given.share(0, 5), Given.await(99));
            house.pass(1);
            house.migrate(0, 0, 7);
            house.pass(1);
            Check.same("taken", house.units(0, 0), 0);
            Check.same("added", house.units(0, 7), 1);
        });
        Check.test("29: it runs until it is stopped", () -> {
            ReleaseHouse house = withUnits(0);
            house.migrate(0, 0, 7);
            house.pass(200);
            Check.badState("there was nothing to be moved", () -> house.migrate(0, 1, 0));
            house.release(0, 0);
            house.pass(3);
            Check.same("it goes on", house.units(0, 7), 2);
            house.halt(0);
            house.pass(1);
            Check.same("it is stopped", house.units(0, 7), 2);
        });
        Check.test("29: from one that is not open", () -> {
            ReleaseHouse house = withUnits(3);
            house.contract(0, 5);
            house.migrate(0, 5, 6);
            house.pass(1);
            Check.same("nothing is there", house.halt(0), 0);
        });
    }

    private static void migrateIsRefused() {
        Check.test("29: throws if a migration of the service runs", () -> {
            Refusal.World running = () -> {
                ReleaseHouse house = withAllOpen();
                house.migrate(0, 0, 1);
                return house;
            };
            Refusal.badState("the same", running, house -> house.migrate(0, 0, 1));
            Refusal.badState("another one", running, house -> house.migrate(0, 2, 3));
            ReleaseHouse house = running.make();
            house.migrate(3, 0, 1);
            Check.same("of another service", house.halt(3), 0);
        });
        Check.test("29: throws if to is not open", () -> {
            Refusal.badState("never opened", ReleaseHouse::new, house -> house.migrate(0, 0, 7));
            Refusal.badState("open in another service", DataEdgesTest::withAllOpen, house -> house.migrate(1, 0, 7));
            Refusal.badState("closed again", () -> {
                ReleaseHouse house = withAllOpen();
                house.contract(0, 7);
                return house;
            }, house -> house.migrate(0, 0, 7));
        });
        Check.test("29: throws if a live artefact of the service does not read it", () -> {
            for (int way = 0; way < 3; way++) {
                int w = way;
                Refusal.World world = () -> withReader(w);
                Refusal.badState("live by way " + w, world, house -> house.migrate(0, 0, 7));
                ReleaseHouse house = world.make();
                house.migrate(0, 0, 6);
                house.migrate(3, 0, 7);
                Check.same("it reads the schema 6; another service is no matter", house.halt(0) + house.halt(3), 0);
            }
            ReleaseHouse house = withReader(2);
            house.end(0, 4);
            house.migrate(0, 0, 7);
            Check.same("not live any more", house.halt(0), 0);
        });
        Check.test("29: of several exceptions it is the first one", () -> {
            Refusal.badArgument("both the same, and not open", ReleaseHouse::new, house -> house.migrate(0, 1, 1));
            Refusal.badArgument("from, and not open", ReleaseHouse::new, house -> house.migrate(0, 8, 1));
        });
    }

    /** An artefact that does not read the schema 7 is stable, a candidate, or in a session. */
    private static ReleaseHouse withReader(int way) {
        ReleaseHouse house = withAllOpen();
        released(house, Given.withData(house, 0, 127, 0), way == 0 ? Given.promote(2) : Given.share(2, 100),
                Given.await(99));
        house.pass(1);
        if (way == 2) {
            house.begin(0, 4);
            house.stop(0);
        }
        return house;
    }

    private static void halt() {
        Check.test("30: service: 0 to 3", () -> Refusal.range(() -> {
            ReleaseHouse house = new ReleaseHouse();
            for (int service = 0; service < 4; service++) {
                house.migrate(service, 7, 0);
            }
            return house;
        }, 0, 3, ReleaseHouse::halt));
        Check.test("30: throws if none runs", () -> {
            Refusal.badState("none began", ReleaseHouse::new, house -> house.halt(0));
            Refusal.badState("of another service", () -> {
                ReleaseHouse house = withAllOpen();
                house.migrate(3, 0, 1);
                return house;
            }, house -> house.halt(0));
            Refusal.badState("it is stopped", () -> {
                ReleaseHouse house = withAllOpen();
                house.migrate(0, 0, 1);
                house.halt(0);
                return house;
            }, house -> house.halt(0));
        });
        Check.test("30: of several exceptions it is the first one",
                () -> Refusal.badArgument("service and none", ReleaseHouse::new, house -> house.halt(4)));
        Check.test("30: returns how many units it has moved", () -> {
            for (int units : new int[] {0, 1, 5, 6}) {
                ReleaseHouse house = withUnits(units);
                house.migrate(0, 0, 7);
                Check.same("at once", house.halt(0), 0);
                house.migrate(0, 0, 7);
                house.pass(1);
                Check.same("of " + units + " in one minute", house.halt(0), Math.min(5, units));
                house.migrate(0, 0, 7);
                house.pass(1);
                Check.same("by this one alone", house.halt(0), Math.max(0, units - 5));
            }
        });
    }

    private static void contract() {
        Refusal.World open = DataEdgesTest::withAllOpen;
        Check.test("31: service: 0 to 3",
                () -> Refusal.range(ReleaseHouse::new, 0, 3, (house, n) -> house.contract(n, 0)));
        Check.test("31: schema: 0 to 7", () -> Refusal.range(open, 0, 7, (house, n) -> house.contract(0, n)));
        Check.test("31: throws if it is not open", () -> {
            for (int schema = 1; schema < 8; schema++) {
                int s = schema;
                Refusal.badState("never opened", ReleaseHouse::new, house -> house.contract(0, s));
            }
            Refusal.badState("closed", () -> {
                ReleaseHouse house = withAllOpen();
                house.contract(0, 0);
                return house;
            }, house -> house.contract(0, 0));
        });
        Check.test("31: throws if it is stored", () -> {
            withUnits(0).contract(0, 0);
            Refusal.badState("one unit", () -> withUnits(1), house -> house.contract(0, 0));
            ReleaseHouse house = withUnits(5);
            house.contract(3, 0);
            house.migrate(0, 0, 1);
            house.pass(1);
            Check.badState("where it was moved", () -> house.contract(0, 1));
            house.contract(0, 0);
            Check.badState("it was closed then", () -> house.contract(0, 0));
        });
        Check.test("31: throws if a live artefact of the service writes it", () -> {
            for (int way = 0; way < 3; way++) {
                int w = way;
                Refusal.badState("live by way " + w, () -> withReader(w), house -> house.contract(0, 0));
                ReleaseHouse house = withReader(w);
                house.contract(0, 6);
                house.contract(3, 0);
                Check.badState("they were closed", () -> house.contract(0, 6));
            }
            ReleaseHouse house = withReader(2);
            house.end(0, 4);
            house.contract(0, 0);
            Check.badState("it was closed, as none is live", () -> house.contract(0, 0));
        });
        Check.test("31: throws if a migration to it runs", () -> {
            Refusal.World running = () -> {
                ReleaseHouse house = withAllOpen();
                house.migrate(0, 1, 2);
                return house;
            };
            Refusal.badState("to it", running, house -> house.contract(0, 2));
            ReleaseHouse house = running.make();
            house.contract(0, 1);
            house.contract(3, 2);
            house.halt(0);
            house.contract(0, 2);
            Check.badState("from it, of another service, and stopped", () -> house.contract(0, 2));
        });
        Check.test("31: of several exceptions it is the first one",
                () -> Refusal.badArgument("service and not open", ReleaseHouse::new, house -> house.contract(4, 1)));
    }

    private static void units() {
        Refusal.World open = DataEdgesTest::withAllOpen;
        Check.test("32: service: 0 to 3", () -> Refusal.range(open, 0, 3, (house, n) -> house.units(n, 0)));
        Check.test("32: schema: 0 to 7", () -> Refusal.range(open, 0, 7, (house, n) -> house.units(0, n)));
        Check.test("32: units of each schema, 0 at first", () -> {
            ReleaseHouse house = new ReleaseHouse();
            for (int i = 0; i < 32; i++) {
                Check.same("service " + i / 8 + ", schema " + i % 8, house.units(i / 8, i % 8), 0);
            }
            house.pass(200);
            Check.same("nothing is there that writes", house.units(0, 0), 0);
        });
        Check.test("32: each minute each stable artefact and each candidate, ring by ring, adds a unit", () -> {
            ReleaseHouse house = withAllOpen();
            released(house, Given.withData(house, 3, 255, 7), Given.promote(0), Given.promote(1), Given.promote(2));
            int[] due = {0, 1, 3, 6, 9};
            for (int i = 0; i < due.length; i++) {
                house.pass(1);
                Check.same("in none, one, two, three rings, minute " + (i + 1), house.units(3, 7), due[i]);
            }
            released(house, Given.withData(house, 3, 255, 6), Given.share(0, 1), Given.share(1, 100),
                    Given.promote(2), Given.await(99));
            house.pass(5);
            Check.same("the candidates, one and two, one and two and stable", house.units(3, 6), 1 + 2 + 3 + 3);
            Check.same("the stable one, in three and two rings", house.units(3, 7), 9 + 3 + 3 + 3 + 2 + 2);
        });
        Check.test("32: a unit each, be it of the same schema", () -> {
            ReleaseHouse house = new ReleaseHouse();
            Given.stable(house, 0, Given.program(house, Given.promote(0)));
            released(house, Given.easy(house, 0), Given.share(0, 5));
            house.pass(1);
            Check.same("the stable one", house.units(0, 0), 1);
            house.pass(1);
            Check.same("and the candidate", house.units(0, 0), 3);
        });
        Check.test("32: of the schema that it writes, of its service", () -> {
            ReleaseHouse house = withAllOpen();
            released(house, Given.withData(house, 3, 255, 7), Given.promote(0));
            house.pass(11);
            for (int i = 0; i < 32; i++) {
                Check.same("service " + i / 8 + ", schema " + i % 8, house.units(i / 8, i % 8), i == 31 ? 10 : 0);
            }
        });
        Check.test("32: what is in a session alone adds nothing", () -> {
            ReleaseHouse house = withReader(2);
            Check.yes("live", house.isLive(0));
            house.pass(100);
            Check.same("units", house.units(0, 0), 0);
        });
    }
}
