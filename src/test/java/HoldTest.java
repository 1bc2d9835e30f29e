/** Promises 38 to 46: holds, freezes, capacity, trains. */
public final class HoldTest {
    public static void main(String[] args) {
        hold();
        freeze();
        freezeLevels();
        freezeMinutes();
        except();
        zone();
        surge();
        left();
        capacityOfRing();
        capacityOfCandidates();
        capacityOfOneAnew();
        capacityBehindOvertaking();
        train();
        board();
        taken();
        takenOnce();
        Check.finish();
    }

    private static void hold() {
        ReleaseHouse house = new ReleaseHouse();
        int program = Given.program(house, Given.await(0), Given.share(0, 1), Given.promote(0));
        house.release(Given.easy(house, 3), program);
        house.release(Given.easy(house, 2), program);
        Check.yes("38: held", house.hold(3));
        house.pass(3);
        Check.same("38: WAIT goes on, SHARE does not", house.at(0), 1);
        Check.same("38: another service is not held", house.state(1), 2);
        Check.no("38: let go", house.hold(3));
        Check.same("38: goes on", house.pass(1), 1);
        Check.badArgument("38: no such service", () -> house.hold(4));
        Check.badArgument("38: below 0", () -> house.hold(-1));
    }

    private static void freeze() {
        ReleaseHouse house = new ReleaseHouse();
        int[][] wrong = {
            {-1, 0, 0, 1}, {3, 0, 0, 1}, {0, -1, 0, 1}, {0, 20001, 20001, 1}, {0, 5, 4, 1}, {0, 5, 20001, 1},
            {0, 0, 0, 0}, {0, 0, 0, 4},
        };
        for (int[] w : wrong) {
            Check.badArgument("39: " + java.util.Arrays.toString(w), () -> house.freeze(w[0], w[1], w[2], w[3]));
        }
        for (int i = 0; i < 8; i++) {
            Check.same("39: its number", house.freeze(2, i == 0 ? 20000 : 0, 20000, 3), i);
        }
        Check.badState("39: there are 8", () -> house.freeze(0, 0, 0, 1));
        Check.badArgument("39: the argument goes first", () -> house.freeze(0, 0, 0, 0));
    }

    /** By levels: whether code, configuration, a hotfix of code, one of configuration is frozen. */
    private static void freezeLevels() {
        boolean[][] due = {{true, false, false, false}, {true, true, false, false}, {true, true, true, true}};
        for (int level = 1; level <= 3; level++) {
            for (int kind = 0; kind < 4; kind++) {
                ReleaseHouse house = new ReleaseHouse();
                house.artefact(0, 0, 0, 0, Given.NONE, 1, 0, kind >= 2, kind % 2 == 0);
                int program = Given.program(house, kind == 1 ? Given.promote(1) : Given.share(1, 5));
                house.release(0, program);
                house.freeze(1, 0, 0, level);
                Check.same("39: level " + level + ", kind " + kind, house.why(0), due[level - 1][kind] ? 3 : 0);
            }
        }
    }

    private static void freezeMinutes() {
        ReleaseHouse house = new ReleaseHouse();
        int program = Given.program(house, Given.share(0, 1), Given.share(0, 2), Given.share(1, 3), Given.share(0, 4));
        house.release(Given.easy(house, 0), program);
        house.freeze(0, 2, 4, 1);
        int[] due = {1, 1, 1, 1, 2, 3, 4};
        for (int i = 0; i < due.length; i++) {
            house.pass(1);
            Check.same("39: at, in the minute " + (i + 1), house.at(0), due[i]);
        }
        Check.same("39: behind it", house.state(0), 2);
        house.freeze(2, 8, 8, 3);
        house.release(0, program);
        house.pass(1);
        Check.same("39: another ring", house.at(1), 1);
    }

    private static void except() {
        ReleaseHouse house = new ReleaseHouse();
        int program = Given.program(house, Given.share(0, 1), Given.await(99));
        house.release(Given.easy(house, 0), program);
        house.release(Given.easy(house, 1), program);
        house.freeze(0, 0, 99, 1);
        house.freeze(0, 0, 99, 3);
        Check.noSuch("40: no such release", () -> house.except(2, 6));
        Check.badArgument("40: no such person", () -> house.except(0, 6));
        Check.badArgument("40: below 0", () -> house.except(0, -1));
        Check.badState("40: its author", () -> house.except(0, 0));
        Check.same("40: frozen still", house.why(0), 3);
        Check.same("40: one", house.except(0, 5), 1);
        Check.same("40: from all freezes", house.why(0), 0);
        Check.same("40: the other one is frozen", house.why(1), 3);
        Check.badState("40: is excepted", () -> house.except(0, 4));
        house.stop(0);
        Check.same("40: of all releases, also those that have ended", house.except(1, 1), 2);
        house.release(0, program);
        Check.same("40: a new release is not excepted", house.why(2), 3);
        house.stop(2);
        Check.badState("40: has ended", () -> house.except(2, 1));
    }

    private static void zone() {
        ReleaseHouse house = new ReleaseHouse();
        Check.yes("41: lost", house.zone(1, 0));
        Check.yes("41: another one", house.zone(1, 2));
        Check.yes("41: of the last ring", house.zone(2, 2));
        Check.same("41: 4 places each", house.left(1), 4);
        Check.same("41: not in another ring", house.left(0), 12);
        Check.no("41: there again", house.zone(1, 0));
        Check.same("41: 4 more", house.left(1), 8);
        Check.badArgument("41: no such ring", () -> house.zone(3, 0));
        Check.badArgument("41: no such zone", () -> house.zone(0, 3));
        Check.badArgument("41: below 0", () -> house.zone(0, -1));
        Check.badArgument("41: ring below 0", () -> house.zone(-1, 0));
    }

    private static void surge() {
        ReleaseHouse house = new ReleaseHouse();
        Check.same("42: 0 at first", house.surge(2, 8), 0);
        Check.same("42: the one before", house.surge(2, 3), 8);
        Check.same("42: more places", house.left(2), 15);
        Check.same("42: not in another ring", house.left(1), 12);
        Check.badArgument("42: too many", () -> house.surge(2, 9));
        Check.badArgument("42: below 0", () -> house.surge(2, -1));
        Check.badArgument("42: no such ring", () -> house.surge(3, 0));
        Check.same("42: nothing has changed", house.surge(2, 0), 3);
    }

    private static void left() {
        ReleaseHouse house = new ReleaseHouse();
        int program = Given.program(house, Given.share(1, 50), Given.share(1, 51), Given.promote(1));
        house.release(Given.easy(house, 0), program);
        int[] due = {11, 10, 10};
        for (int places : due) {
            house.pass(1);
            Check.same("43: a candidate takes 1 or 2, a stable one 2", house.left(1), places);
        }
        house.release(Given.easy(house, 2), program);
        house.pass(1);
        Check.same("43: of all services", house.left(1), 9);
        house.zone(1, 0);
        house.zone(1, 1);
        house.zone(1, 2);
        Check.same("43: below 0", house.left(1), -3);
        Check.same("43: of another ring", house.left(0), 12);
        Check.badArgument("43: no such ring", () -> house.left(3));
        Check.badArgument("43: below 0", () -> house.left(-1));
    }

    private static void capacityOfRing() {
        ReleaseHouse house = new ReleaseHouse();
        int promoting = Given.program(house, Given.promote(0));
        int small = Given.program(house, Given.share(0, 50), Given.promote(0));
        int large = Given.program(house, Given.share(0, 51), Given.share(0, 50), Given.share(0, 60));
        house.zone(0, 0);
        house.zone(0, 1);
        house.release(Given.easy(house, 0), promoting);
        house.release(Given.easy(house, 1), promoting);
        house.release(Given.easy(house, 2), promoting);
        Check.same("43: two go", house.pass(1), 2);
        Check.same("14: all 4 places are taken", house.why(2), 5);
        int next = house.release(Given.easy(house, 0), small);
        Check.same("14: no place for a candidate", house.why(next), 5);
        house.surge(0, 1);
        Check.same("14: one place", house.why(next), 0);
        int other = house.release(Given.easy(house, 1), large);
        Check.same("14: one is not enough", house.why(other), 5);
        house.stop(2);
        house.pass(1);
        Check.same("43: all are taken", house.left(0), 0);
        house.zone(0, 2);
        Check.same("43: a zone is lost", house.left(0), -4);
        Check.same("14: takes no more than ahead", house.why(next), 0);
        house.pass(1);
        Check.same("20: promoted all the same", house.stable(0, 0), 3);
        Check.same("14: more than ahead", house.why(other), 5);
        house.surge(0, 6);
        house.pass(1);
        house.surge(0, 0);
        Check.same("14: a smaller share takes less", house.why(other), 0);
        house.pass(1);
        Check.same("14: a larger one takes more", house.why(other), 5);
    }

    private static void capacityOfCandidates() {
        ReleaseHouse house = new ReleaseHouse();
        int program = Given.program(house, Given.share(0, 100), Given.share(1, 51), Given.share(2, 1), Given.await(9));
        house.release(Given.easy(house, 0), program);
        house.release(Given.easy(house, 1), program);
        house.pass(2);
        Check.same("14: 4 places of the service are taken", house.why(0), 5);
        Check.same("14: so of the other one", house.why(1), 5);
        int lower = Given.program(house, Given.share(1, 50), Given.share(2, 50), Given.share(2, 51), Given.promote(2));
        house.stop(0);
        house.release(0, program);
        house.pass(2);
        house.stop(2);
        house.release(0, Given.program(house, Given.share(0, 100), Given.share(1, 50), Given.share(2, 50),
                Given.share(2, 51)));
        Check.same("15: 2 and 1 and 1", house.pass(3), 3);
        Check.same("14: 2 and 1 and 2", house.why(3), 5);
        house.stop(1);
        house.release(1, lower);
        Check.same("15: 1 and 1, 1 and 2", house.pass(3), 3);
        Check.same("15: PROMOTE does not ask for that", house.pass(1), 1);
    }

    /** The share in the ring itself is another one behind the step; the other rings count as they are. */
    private static void capacityOfOneAnew() {
        ReleaseHouse house = new ReleaseHouse();
        int program = Given.program(house, Given.share(1, 60), Given.share(0, 10), Given.share(0, 60), Given.await(99));
        house.release(Given.easy(house, 0), program);
        Check.same("15: 2 and 1, 2 and 2", house.pass(3), 3);
        int inThree = Given.program(house, Given.share(2, 60), Given.share(1, 50), Given.share(0, 50), Given.await(99));
        int hot = Given.program(house, Given.share(0, 60), Given.await(99));
        house.release(Given.easy(house, 1), inThree);
        house.pass(3);
        house.release(Given.hotfix(house, 1), hot);
        Check.same("14: what it overtakes is gone in all rings", house.why(2), 0);
    }

    /** The hotfix overtakes what has candidates of 4 places in two rings. */
    private static void capacityBehindOvertaking() {
        ReleaseHouse house = new ReleaseHouse();
        int normal = Given.program(house, Given.share(0, 60), Given.share(1, 60), Given.await(99));
        int hot = Given.program(house, Given.share(2, 60), Given.await(1), Given.share(0, 60), Given.await(99));
        house.release(Given.easy(house, 0), normal);
        house.pass(2);
        house.release(Given.hotfix(house, 0), hot);
        Check.same("14: three candidates", house.why(1), 5);
        house.stop(0);
        house.pass(2);
        house.release(0, Given.program(house, Given.share(0, 60), Given.await(99)));
        house.stop(1);
        house.pass(1);
        Check.same("22: shared again", house.share(0, 0), 60);
        house.release(1, Given.program(house, Given.share(1, 60), Given.share(0, 60), Given.await(99)));
        house.pass(1);
        house.zone(0, 0);
        house.zone(0, 1);
        house.zone(0, 2);
        Check.same("14: what it overtakes is gone", house.why(3), 0);
        house.pass(1);
        Check.same("12: overtaken", house.state(2), 1);
        Check.same("22: both are of the hotfix", house.share(0, 0) + house.share(0, 1), 120);
        ReleaseHouse other = new ReleaseHouse();
        int inTwo = Given.program(other, Given.share(1, 60), Given.share(0, 60), Given.await(99));
        other.release(Given.easy(other, 0), inTwo);
        other.pass(2);
        other.release(Given.hotfix(other, 0),
                Given.program(other, Given.share(0, 60), Given.share(2, 60), Given.await(9)));
        Check.same("14: gone in the other ring too", other.why(1), 0);
        Check.same("15: both go on", other.pass(2), 2);
    }

    private static void train() {
        ReleaseHouse house = new ReleaseHouse();
        house.pass(7);
        Check.badArgument("44: now", () -> house.train(7));
        Check.badArgument("44: gone by", () -> house.train(0));
        Check.badArgument("44: too far", () -> house.train(20001));
        Check.badArgument("44: below 0", () -> house.train(Integer.MIN_VALUE));
        for (int i = 0; i < 6; i++) {
            Check.same("44: its number", house.train(i == 0 ? 20000 : 8), i);
        }
        Check.badState("44: there are 6", () -> house.train(8));
        Check.badArgument("44: the argument goes first", () -> house.train(7));
    }

    private static void board() {
        ReleaseHouse house = new ReleaseHouse();
        int program = Given.program(house, Given.byTrain(), Given.await(99));
        Check.noSuch("45: no such train", () -> house.board(0, 0));
        house.train(3);
        house.train(4);
        Check.noSuch("45: no such release", () -> house.board(0, 0));
        for (int i = 0; i < 3; i++) {
            house.release(Given.easy(house, i), program);
        }
        Check.same("45: one", house.board(0, 0), 1);
        Check.same("45: two", house.board(0, 1), 2);
        Check.badState("45: is on board of it", () -> house.board(0, 1));
        Check.same("45: from another one", house.board(1, 1), 1);
        Check.same("45: and back", house.board(0, 1), 2);
        house.stop(2);
        Check.badState("45: has ended", () -> house.board(0, 2));
        house.pass(3);
        Check.badState("45: has left", () -> house.board(0, 0));
        Check.same("45: not on board any more", house.board(1, 0), 1);
        Check.noSuch("45: below 0", () -> house.board(-1, 0));
        Check.noSuch("45: release below 0", () -> house.board(1, -1));
    }

    private static void taken() {
        ReleaseHouse house = new ReleaseHouse();
        int program = Given.program(house, Given.await(1), Given.byTrain(), Given.share(0, 10), Given.await(99));
        for (int i = 0; i < 3; i++) {
            house.release(Given.easy(house, i), program);
        }
        house.pass(1);
        house.release(Given.easy(house, 3), program);
        house.train(3);
        house.train(2);
        Check.same("46: has not left", house.taken(1), Given.NONE);
        house.board(1, 0);
        house.board(1, 3);
        house.board(0, 1);
        house.stop(2);
        Check.same("15: it goes on in the minute of the train, another one comes to it", house.pass(1), 2);
        Check.same("46: at a TRAIN step", house.taken(1), 1);
        Check.same("13: taken", house.at(0), 2);
        Check.same("46: the other train has not", house.taken(0), Given.NONE);
        Check.same("14: left behind", house.why(3), 11);
        house.die(false);
        house.pass(1);
        Check.yes("18: dead", house.isDead());
        Check.same("46: leaves without a controller", house.taken(0), 1);
        Check.same("13: the other one is where it was", house.at(1), 1);
        house.rise();
        house.pass(1);
        Check.same("13: goes on with what has taken it", house.at(1), 2);
        Check.noSuch("46: no such train", () -> house.taken(2));
        Check.noSuch("46: below 0", () -> house.taken(-1));
    }

    private static void takenOnce() {
        ReleaseHouse house = new ReleaseHouse();
        int program = Given.program(house, Given.byTrain(), Given.share(0, 10), Given.byTrain(), Given.await(99));
        house.release(Given.easy(house, 0), program);
        house.train(1);
        house.board(0, 0);
        house.pass(2);
        Check.same("14: one train for each step", house.why(0), 11);
        house.release(Given.hotfix(house, 0), Given.program(house, Given.share(0, 10)));
        house.train(3);
        house.board(1, 0);
        house.pass(1);
        Check.same("46: taken, ahead of what overtakes it", house.taken(1), 1);
        Check.same("14: runs again, and waits for the next one", house.why(0), 11);
        Check.same("13: from its first step", house.at(0), 0);
        int waiting = Given.program(house, Given.share(1, 10), Given.await(99));
        int hotfix = house.release(1, waiting);
        int shared = house.release(Given.easy(house, 0),
                Given.program(house, Given.share(1, 10), Given.byTrain(), Given.await(99)));
        house.hold(0);
        house.pass(1);
        house.stop(hotfix);
        house.hold(0);
        house.pass(1);
        house.release(1, waiting);
        house.pass(1);
        house.train(7);
        house.board(2, shared);
        house.pass(1);
        Check.same("46: one that is overtaken is not taken", house.taken(2), 0);
    }
}
