/** Promises 38 to 46, sentence by sentence: the edges that the document names. */
public final class HoldEdgesTest {
    private static final int NONE = ReleaseHouse.NONE;

    public static void main(String[] args) {
        hold();
        freeze();
        freezeHolds();
        except();
        zone();
        surge();
        left();
        train();
        board();
        boardIsRefused();
        taken();
        Check.finish();
    }

    private static void hold() {
        Check.test("38: service: 0 to 3", () -> Refusal.range(ReleaseHouse::new, 0, 3, ReleaseHouse::hold));
        Check.test("38: returns whether it is held then", () -> {
            ReleaseHouse house = new ReleaseHouse();
            for (int service = 0; service < 4; service++) {
                Check.yes("held", house.hold(service));
            }
            for (int service = 0; service < 4; service++) {
                Check.no("let go", house.hold(service));
            }
            Check.yes("held again", house.hold(0));
        });
        Check.test("38: holds hotfixes, configuration, and what is excepted, too", () -> {
            for (int kind = 0; kind < 4; kind++) {
                ReleaseHouse house = new ReleaseHouse();
                house.artefact(0, 0, 0, 0, NONE, 1, 0, kind >= 2, kind % 2 == 0);
                house.release(0, Given.program(house, Given.promote(0)));
                house.except(0, 1);
                house.hold(0);
                Check.same("hotfix " + (kind >= 2) + ", code " + (kind % 2 == 0), house.why(0), 2);
            }
        });
        Check.test("38: what is there stays while it is held", () -> {
            ReleaseHouse house = new ReleaseHouse();
            int release = Given.released(house, 0, Given.share(0, 5), Given.await(9));
            house.pass(1);
            house.hold(0);
            house.pass(1);
            Check.same("candidate", house.candidate(0, 0), 0);
            house.stop(release);
            Check.same("it may be stopped", house.candidate(0, 0), NONE);
        });
    }

    private static ReleaseHouse withFreezes(int count) {
        ReleaseHouse house = new ReleaseHouse();
        for (int i = 0; i < count; i++) {
            Check.same("its number", house.freeze(i % 3, 0, i, 1), i);
        }
        return house;
    }

    private static void freeze() {
        Refusal.World none = ReleaseHouse::new;
        Check.test("39: ring: 0 to 2", () -> Refusal.range(none, 0, 2, (house, n) -> house.freeze(n, 0, 0, 1)));
        Check.test("39: from: the first minute, 0 to 20000",
                () -> Refusal.range(none, 0, 20000, (house, n) -> house.freeze(0, n, 20000, 1)));
        Check.test("39: to: the last minute, from to 20000", () -> {
            Refusal.range(none, 0, 20000, (house, n) -> house.freeze(0, 0, n, 1));
            Refusal.range(none, 7, 20000, (house, n) -> house.freeze(0, 7, n, 1));
            Refusal.range(none, 20000, 20000, (house, n) -> house.freeze(0, 20000, n, 1));
        });
        Check.test("39: level: 1 to 3", () -> Refusal.range(none, 1, 3, (house, n) -> house.freeze(0, 0, 0, n)));
        Check.test("39: freezes are numbered from 0, at most 8", () -> {
            Check.same("the last one", withFreezes(7).freeze(0, 0, 0, 1), 7);
            Refusal.badState("there are 8", () -> withFreezes(8), house -> house.freeze(0, 0, 0, 1));
        });
        Check.test("39: those that have gone by are of the 8 too", () -> Refusal.badState("there are 8", () -> {
            ReleaseHouse house = withFreezes(8);
            house.pass(200);
            return house;
        }, house -> house.freeze(0, 300, 400, 1)));
        Check.test("39: of several exceptions it is the first one",
                () -> Refusal.badArgument("level and 8", () -> withFreezes(8), house -> house.freeze(0, 0, 0, 4)));
        Check.test("39: one that has gone by may be made", () -> {
            ReleaseHouse house = Given.atMinute(50);
            Check.same("its number", house.freeze(0, 0, 49, 3), 0);
            Check.same("it holds for none", house.why(Given.released(house, 0, Given.promote(0))), 0);
        });
    }

    private static void freezeHolds() {
        Check.test("39: from a minute to another one, both included", () -> {
            int[][] rows = {{9, 0}, {10, 3}, {11, 3}, {12, 3}, {13, 0}};
            for (int[] row : rows) {
                ReleaseHouse house = Given.atMinute(row[0]);
                house.freeze(1, 10, 12, 2);
                Check.same("in the minute " + row[0], house.why(Given.released(house, 0, Given.promote(1))), row[1]);
            }
        });
        Check.test("39: of one minute", () -> {
            for (int minute = 4; minute <= 6; minute++) {
                ReleaseHouse house = Given.atMinute(minute);
                house.freeze(2, 5, 5, 3);
                Check.same("in the minute " + minute, house.why(Given.released(house, 0, Given.promote(2))),
                        minute == 5 ? 3 : 0);
            }
        });
        Check.test("39: of the minute 0, and of the last one", () -> {
            for (int minute = 0; minute <= 20000; minute += 20000) {
                ReleaseHouse house = Given.atMinute(minute);
                house.freeze(0, minute, minute, 3);
                Check.same("in the minute " + minute, house.why(Given.released(house, 0, Given.promote(0))), 3);
            }
        });
        Check.test("39: by any of those of the ring", () -> {
            ReleaseHouse house = new ReleaseHouse();
            house.freeze(0, 0, 0, 3);
            house.freeze(1, 0, 0, 3);
            house.freeze(2, 1, 9, 3);
            Check.same("none of them", house.why(Given.released(house, 0, Given.promote(2))), 0);
            for (int i = 3; i < 7; i++) {
                house.freeze(0, 5, 5, 3);
            }
            house.freeze(2, 0, 0, 1);
            Check.same("the eighth", house.why(0), 3);
            for (int one = 0; one < 8; one++) {
                ReleaseHouse other = new ReleaseHouse();
                for (int i = 0; i < 8; i++) {
                    other.freeze(2, 0, 0, i == one ? 3 : 2);
                }
                other.release(Given.hotfix(other, 0), Given.program(other, Given.promote(2)));
                Check.same("the one of eight that holds for it, " + one, other.why(0), 3);
            }
        });
        Check.test("39: 1 for code that is no hotfix, 2 for all that are no hotfixes, 3 for all", () -> {
            int[][] rows = {{1, 3, 0, 0, 0}, {2, 3, 3, 0, 0}, {3, 3, 3, 3, 3}};
            for (int[] row : rows) {
                for (int kind = 0; kind < 4; kind++) {
                    ReleaseHouse house = new ReleaseHouse();
                    house.artefact(0, 0, 0, 0, NONE, 1, 0, kind >= 2, kind % 2 == 0);
                    house.release(0, Given.program(house, Given.share(0, 5)));
                    house.freeze(0, 0, 0, row[0]);
                    Check.same("level " + row[0] + ", hotfix " + (kind >= 2) + ", code " + (kind % 2 == 0),
                            house.why(0), row[1 + kind]);
                }
            }
        });
    }

    /** The releases 0 and 1 are of artefacts by the authors 3 and 2; all rings are frozen for all. */
    private static ReleaseHouse withFrozen() {
        ReleaseHouse house = new ReleaseHouse();
        int program = Given.program(house, Given.share(0, 5), Given.share(1, 5), Given.await(99));
        for (int i = 0; i < 2; i++) {
            house.artefact(i, 3 - i, 0, 0, NONE, 1, 0, false, true);
            house.release(i, program);
        }
        for (int ring = 0; ring < 3; ring++) {
            house.freeze(ring, 0, 20000, 3);
        }
        house.freeze(0, 0, 20000, 1);
        return house;
    }

    private static void except() {
        Refusal.World frozen = HoldEdgesTest::withFrozen;
        Check.test("40: throws if there is no such release",
                () -> Refusal.numbers(frozen, 2, (house, n) -> house.except(n, 0)));
        Check.test("40: person: 0 to 5", () -> Refusal.range(frozen, 0, 5, (house, n) -> house.except(0, n)));
        Check.test("40: throws if the person is its author", () -> {
            Refusal.badState("of the first one", frozen, house -> house.except(0, 3));
            Refusal.badState("of the other one", frozen, house -> house.except(1, 2));
            Check.same("of the other one for this one", frozen.make().except(0, 2), 1);
        });
        Check.test("40: throws if it is excepted", () -> {
            Refusal.World excepted = () -> {
                ReleaseHouse house = withFrozen();
                house.except(0, 0);
                return house;
            };
            Refusal.badState("by the same", excepted, house -> house.except(0, 0));
            Refusal.badState("by another one", excepted, house -> house.except(0, 5));
        });
        Check.test("40: throws if it has ended", () -> Refusal.badState("stopped", () -> {
            ReleaseHouse house = withFrozen();
            house.stop(0);
            return house;
        }, house -> house.except(0, 0)));
        Check.test("40: of several exceptions it is the first one", () -> {
            Refusal.noSuch("release and person", frozen, house -> house.except(2, 6));
            Refusal.badArgument("person and an end", () -> {
                ReleaseHouse house = withFrozen();
                house.stop(0);
                return house;
            }, house -> house.except(0, 6));
        });
        Check.test("40: how many exceptions there are then, of all releases", () -> {
            ReleaseHouse house = withFrozen();
            Check.same("one", house.except(0, 0), 1);
            house.stop(0);
            Check.same("that of one that has ended too", house.except(1, 0), 2);
            house.release(0, 0);
            Check.same("three", house.except(2, 5), 3);
        });
        Check.test("40: a release that was excepted is not frozen", () -> {
            ReleaseHouse house = withFrozen();
            house.except(1, 5);
            house.pass(2);
            Check.same("in all rings", house.at(1), 2);
            Check.same("another one is", house.why(0), 3);
            house.stop(1);
            Check.same("nor is another one of its artefact excepted", house.why(house.release(1, 0)), 3);
        });
        Check.test("40: one that runs again is excepted still", () -> {
            ReleaseHouse house = withFrozen();
            house.except(0, 0);
            house.pass(1);
            int hotfix = house.release(Given.hotfix(house, 0), 0);
            house.except(hotfix, 1);
            house.pass(1);
            Check.same("overtaken", house.state(0), 1);
            Check.same("that is no end", house.state(hotfix), 0);
            house.stop(hotfix);
            Check.same("goes on", house.why(0), 0);
            Check.same("all three are", house.except(1, 0), 3);
        });
        Check.test("40: one that is overtaken has not ended", () -> {
            ReleaseHouse house = new ReleaseHouse();
            int program = Given.program(house, Given.share(0, 5), Given.await(99));
            house.release(Given.easy(house, 0), program);
            house.pass(1);
            house.release(Given.hotfix(house, 0), program);
            house.pass(1);
            Check.same("overtaken", house.state(0), 1);
            Check.same("excepted", house.except(0, 1), 1);
        });
    }

    private static void zone() {
        Check.test("41: ring: 0 to 2", () -> Refusal.range(ReleaseHouse::new, 0, 2, (house, n) -> house.zone(n, 0)));
        Check.test("41: zone: 0 to 2", () -> Refusal.range(ReleaseHouse::new, 0, 2, (house, n) -> house.zone(0, n)));
        Check.test("41: returns whether it is lost then", () -> {
            ReleaseHouse house = new ReleaseHouse();
            for (int i = 0; i < 18; i++) {
                boolean isLost = i < 9;
                Check.yes("zone " + i % 3 + " of the ring " + i / 3 % 3, house.zone(i / 3 % 3, i % 3) == isLost);
            }
        });
        Check.test("41: the zones 0 to 2, each with 4 places, unless it is lost", () -> {
            ReleaseHouse house = new ReleaseHouse();
            int[] due = {12, 8, 4, 0};
            for (int lost = 0; lost <= 3; lost++) {
                Check.same(lost + " are lost", house.left(2), due[lost]);
                house.zone(2, 2 - lost % 3);
            }
            Check.same("one is there again", house.left(2), 4);
            Check.same("another ring", house.left(1), 12);
        });
    }

    private static void surge() {
        Check.test("42: ring: 0 to 2", () -> Refusal.range(ReleaseHouse::new, 0, 2, (house, n) -> house.surge(n, 1)));
        Check.test("42: places: 0 to 8", () -> Refusal.range(ReleaseHouse::new, 0, 8, (house, n) -> house.surge(0, n)));
        Check.test("42: returns the one before, 0 at first", () -> {
            ReleaseHouse house = new ReleaseHouse();
            for (int ring = 0; ring < 3; ring++) {
                Check.same("at first", house.surge(ring, 8), 0);
                Check.same("the most", house.surge(ring, 0), 8);
                Check.same("none", house.surge(ring, ring), 0);
            }
            Check.same("of this ring", house.surge(1, 0), 1);
        });
        Check.test("42: sets it, adds nothing", () -> {
            ReleaseHouse house = new ReleaseHouse();
            house.surge(0, 8);
            Check.same("8 more", house.left(0), 20);
            house.surge(0, 8);
            Check.same("8 still", house.left(0), 20);
            house.surge(0, 0);
            Check.same("none", house.left(0), 12);
        });
    }

    private static void left() {
        Check.test("43: ring: 0 to 2", () -> Refusal.range(ReleaseHouse::new, 0, 2, ReleaseHouse::left));
        Check.test("43: a stable artefact takes 2, a candidate 1 with a share up to 50, otherwise 2", () -> {
            int[][] rows = {{1, 11}, {50, 11}, {51, 10}, {100, 10}, {0, 10}};
            for (int[] row : rows) {
                ReleaseHouse house = new ReleaseHouse();
                Given.released(house, 3, row[0] == 0 ? Given.promote(1) : Given.share(1, row[0]));
                house.pass(1);
                Check.same("share " + row[0] + " (0 is PROMOTE)", house.left(1), row[1]);
                Check.same("in another ring", house.left(0) + house.left(2), 24);
            }
        });
        Check.test("43: of all services", () -> {
            ReleaseHouse house = new ReleaseHouse();
            int program = Given.program(house, Given.promote(0), Given.await(99));
            for (int service = 0; service < 4; service++) {
                house.release(Given.easy(house, service), program);
                house.pass(1);
                Check.same("stable ones", house.left(0), 10 - 2 * service);
            }
            int shares = Given.program(house, Given.share(0, 50), Given.await(99));
            for (int service = 0; service < 4; service++) {
                house.release(Given.easy(house, service), shares);
                house.pass(1);
                Check.same("candidates", house.left(0), 3 - service);
            }
        });
        Check.test("43: below 0 if more are taken than there are", () -> {
            ReleaseHouse house = new ReleaseHouse();
            Given.released(house, 0, Given.promote(0));
            house.pass(1);
            for (int zone = 0; zone < 3; zone++) {
                house.zone(0, zone);
            }
            Check.same("two more", house.left(0), -2);
            house.surge(0, 1);
            Check.same("one more", house.left(0), -1);
            house.surge(0, 2);
            Check.same("none more", house.left(0), 0);
        });
        Check.test("43: as many as may be taken, and none there", () -> {
            ReleaseHouse house = new ReleaseHouse();
            house.surge(0, 4);
            int program = Given.program(house, Given.promote(0));
            int sharing = Given.program(house, Given.share(0, 100));
            for (int service = 0; service < 4; service++) {
                Given.stable(house, service, program);
                house.release(Given.easy(house, service), sharing);
            }
            house.pass(1);
            Check.same("all are taken", house.left(0), 0);
            house.surge(0, 0);
            for (int zone = 0; zone < 3; zone++) {
                house.zone(0, zone);
            }
            Check.same("none is there", house.left(0), -16);
        });
        Check.test("43: a session takes no place", () -> {
            ReleaseHouse house = new ReleaseHouse();
            int release = Given.released(house, 0, Given.share(0, 100), Given.await(9));
            house.pass(1);
            house.begin(0, 0);
            house.stop(release);
            Check.same("all are left", house.left(0), 12);
        });
    }

    private static ReleaseHouse withTrains(int count) {
        ReleaseHouse house = new ReleaseHouse();
        for (int i = 0; i < count; i++) {
            Check.same("its number", house.train(1), i);
        }
        return house;
    }

    private static void train() {
        Check.test("44: a minute behind now, at most 20000", () -> {
            Refusal.range(ReleaseHouse::new, 1, 20000, ReleaseHouse::train);
            Refusal.range(() -> Given.atMinute(7), 8, 20000, ReleaseHouse::train);
            Refusal.range(() -> Given.atMinute(19999), 20000, 20000, ReleaseHouse::train);
            Refusal.badArgument("there is none behind the last one", () -> Given.atMinute(20000),
                    house -> house.train(20000));
        });
        Check.test("44: trains are numbered from 0, at most 6", () -> {
            Check.same("the last one", withTrains(5).train(20000), 5);
            Refusal.badState("there are 6", () -> withTrains(6), house -> house.train(2));
        });
        Check.test("44: those that have left are of the 6 too", () -> Refusal.badState("there are 6", () -> {
            ReleaseHouse house = withTrains(6);
            house.pass(1);
            return house;
        }, house -> house.train(2)));
        Check.test("44: of several exceptions it is the first one",
                () -> Refusal.badArgument("minute and 6", () -> withTrains(6), house -> house.train(0)));
    }

    /** Two trains that leave in the minute 3, and two releases at a TRAIN step. */
    private static ReleaseHouse withBoarding() {
        ReleaseHouse house = new ReleaseHouse();
        int program = Given.program(house, Given.byTrain(), Given.await(99));
        for (int i = 0; i < 2; i++) {
            house.release(Given.easy(house, i), program);
            house.train(3);
        }
        return house;
    }

    private static void board() {
        Check.test("45: throws if there is no such train or release", () -> {
            Refusal.World two = HoldEdgesTest::withBoarding;
            Refusal.numbers(two, 2, (house, n) -> house.board(n, 0));
            Refusal.numbers(two, 2, (house, n) -> house.board(0, n));
            Refusal.noSuch("none at all", ReleaseHouse::new, house -> house.board(0, 0));
        });
        Check.test("45: returns how many releases are on board", () -> {
            ReleaseHouse house = withBoarding();
            Check.same("one", house.board(0, 1), 1);
            Check.same("two", house.board(0, 0), 2);
        });
        Check.test("45: nothing tells that one that has ended leaves it", () -> {
            ReleaseHouse house = withBoarding();
            house.board(0, 1);
            house.stop(1);
            Check.same("both are on board", house.board(0, 0), 2);
            house.pass(3);
            Check.same("one is taken", house.taken(0), 1);
        });
        Check.test("45: from another one, if it is on board of that", () -> {
            ReleaseHouse house = withBoarding();
            house.board(0, 0);
            house.board(0, 1);
            Check.same("on board of the other one alone", house.board(1, 0), 1);
            Check.same("and the next", house.board(1, 1), 2);
            Check.same("and back", house.board(0, 0), 1);
            house.pass(3);
            Check.same("taken by one of both", house.taken(0) * 10 + house.taken(1), 11);
        });
        Check.test("45: one that is not at a TRAIN step may be on board", () -> {
            ReleaseHouse house = withBoarding();
            int waiting = Given.released(house, 2, Given.await(1), Given.byTrain(), Given.await(99));
            Check.same("on board", house.board(0, waiting), 1);
            house.pass(3);
            Check.same("it has come to it", house.taken(0), 1);
        });
        Check.test("45: one that is overtaken may be on board", () -> {
            ReleaseHouse house = withBoarding();
            int normal = Given.released(house, 2, Given.share(0, 5), Given.byTrain());
            house.pass(1);
            house.release(Given.hotfix(house, 2), Given.program(house, Given.share(0, 5), Given.await(99)));
            house.pass(1);
            Check.same("overtaken", house.state(normal), 1);
            Check.same("on board", house.board(0, normal), 1);
            house.pass(1);
            Check.same("not taken", house.taken(0), 0);
        });
    }

    private static void boardIsRefused() {
        Check.test("45: throws if the train has left", () -> {
            Refusal.World left = () -> {
                ReleaseHouse house = withBoarding();
                house.board(0, 0);
                house.pass(3);
                return house;
            };
            Refusal.badState("with one", left, house -> house.board(0, 1));
            Refusal.badState("with none", left, house -> house.board(1, 1));
            ReleaseHouse house = withBoarding();
            house.pass(2);
            Check.same("it has not, the minute ahead", house.board(0, 0), 1);
        });
        Check.test("45: throws if the release has ended", () -> Refusal.badState("stopped", () -> {
            ReleaseHouse house = withBoarding();
            house.stop(0);
            return house;
        }, house -> house.board(0, 0)));
        Check.test("45: throws if the release is on board of it", () -> {
            Refusal.World boarded = () -> {
                ReleaseHouse house = withBoarding();
                house.board(1, 0);
                return house;
            };
            Refusal.badState("twice", boarded, house -> house.board(1, 0));
            ReleaseHouse house = boarded.make();
            house.board(0, 0);
            Check.same("not any more", house.board(1, 0), 1);
        });
        Check.test("45: of several exceptions it is the first one",
                () -> Refusal.noSuch("release and train that has left",
                () -> {
                    ReleaseHouse house = withBoarding();
                    house.pass(3);
                    return house;
                }, house -> house.board(0, 2)));
    }

    private static void taken() {
        Check.test("46: throws if there is no such train", () -> {
            Refusal.numbers(HoldEdgesTest::withBoarding, 2, ReleaseHouse::taken);
            Refusal.noSuch("none at all", ReleaseHouse::new, house -> house.taken(0));
        });
        Check.test("46: NONE if it has not left", () -> {
            ReleaseHouse house = withBoarding();
            house.board(0, 0);
            Check.same("at first", house.taken(0), NONE);
            house.pass(2);
            Check.same("the minute ahead", house.taken(0), NONE);
            house.pass(1);
            Check.same("it has left", house.taken(0), 1);
            Check.same("the other one with none", house.taken(1), 0);
            house.pass(100);
            Check.same("for good", house.taken(0), 1);
        });
        Check.test("46: it takes all releases on board that are running and at a TRAIN step", () -> {
            ReleaseHouse house = withBoarding();
            int late = Given.released(house, 2, Given.await(2), Given.await(1), Given.byTrain());
            int stopped = Given.released(house, 3, Given.byTrain());
            for (int release : new int[] {0, 1, late, stopped}) {
                house.board(1, release);
            }
            house.stop(stopped);
            house.pass(3);
            Check.same("two of four", house.taken(1), 2);
            Check.same("it came to it in that minute", house.at(late), 2);
            house.pass(50);
            Check.same("and stays", house.at(late), 2);
        });
        Check.test("46: one that was overtaken on board, and runs again", () -> {
            ReleaseHouse house = new ReleaseHouse();
            int normal = Given.released(house, 0, Given.byTrain(), Given.share(0, 5), Given.await(99));
            house.train(1);
            house.board(0, normal);
            house.pass(2);
            house.train(5);
            house.board(1, normal);
            int hotfix = house.release(Given.hotfix(house, 0),
                    Given.program(house, Given.share(0, 5), Given.await(99)));
            house.pass(1);
            Check.same("overtaken", house.state(normal), 1);
            Check.badState("on board still", () -> house.board(1, normal));
            house.stop(hotfix);
            house.pass(2);
            Check.same("taken again", house.taken(1), 1);
        });
        Check.test("46: one that another train has taken, and that is at that step still", () -> {
            ReleaseHouse house = withBoarding();
            house.board(0, 0);
            house.die(false);
            house.pass(3);
            house.train(4);
            house.board(2, 0);
            house.pass(1);
            Check.same("by the first one", house.taken(0), 1);
            Check.same("by the next one", house.taken(2), 1);
        });
        Check.test("46: the others are not on board any more", () -> {
            ReleaseHouse house = withBoarding();
            int late = Given.released(house, 2, Given.await(5), Given.byTrain());
            house.board(0, late);
            house.pass(3);
            house.train(9);
            Check.same("of the next one alone", house.board(2, late), 1);
            house.pass(6);
            Check.same("taken by that", house.taken(2), 1);
        });
        Check.test("46: a train leaves in its minute, by their numbers", () -> {
            ReleaseHouse house = withBoarding();
            house.board(0, 1);
            house.board(1, 0);
            Check.same("two steps", house.pass(3), 2);
            Check.same("each took one", house.taken(0) * 10 + house.taken(1), 11);
        });
        Check.test("46: one that leaves in the last minute", () -> {
            ReleaseHouse house = Given.atMinute(19999);
            house.train(20000);
            Check.same("not yet", house.taken(0), NONE);
            house.pass(1);
            Check.same("it has", house.taken(0), 0);
        });
    }
}
