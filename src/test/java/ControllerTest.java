/** Promises 15 to 19: minutes and the controller. */
public final class ControllerTest {
    public static void main(String[] args) {
        pass();
        passToTheLastMinute();
        passByOrder();
        passWaits();
        overtaking();
        runsAgain();
        die();
        dieByKinds();
        dieAtStopAndSkip();
        rise();
        effects();
        Check.finish();
    }

    private static void pass() {
        ReleaseHouse house = new ReleaseHouse();
        Check.badArgument("15: 0", () -> house.pass(0));
        Check.badArgument("15: 201", () -> house.pass(201));
        Check.badArgument("15: below 0", () -> house.pass(Integer.MIN_VALUE));
        Check.same("15: nothing to do", house.pass(200), 0);
        int program = Given.program(house, Given.share(0, 10), Given.promote(0), Given.await(0));
        house.release(Given.easy(house, 0), program);
        house.release(Given.easy(house, 1), program);
        Check.same("15: a step a minute of each", house.pass(1), 2);
        Check.same("15: the rest", house.pass(200), 4);
        house.release(0, program);
        Check.same("15: a step without an effect is noted", house.pass(1), 1);
        house.stop(2);
        Check.same("15: a stop from outside is none of it", house.pass(1), 0);
        int other = Given.easy(house, 0);
        Given.stable(house, 0, program);
        house.pass(2);
        house.release(other, program);
        Check.same("15: a skip counts", house.pass(1), 1);
        Check.same("15: skipped", house.state(4), 4);
    }

    private static void passToTheLastMinute() {
        ReleaseHouse house = new ReleaseHouse();
        for (int i = 0; i < 99; i++) {
            house.pass(200);
        }
        house.pass(199);
        Check.badState("15: more than 20000", () -> house.pass(2));
        Check.badArgument("15: the argument goes first", () -> house.pass(201));
        Check.same("15: it is minute 19999 still", house.train(20000), 0);
        Check.same("15: 20000", house.pass(1), 0);
        Check.same("15: the train has left", house.taken(0), 0);
        Check.badState("15: 20001", () -> house.pass(1));
    }

    private static void passByOrder() {
        ReleaseHouse house = new ReleaseHouse();
        int promoting = Given.program(house, Given.promote(0));
        int normal = Given.easy(house, 0);
        int older = Given.hotfix(house, 0);
        int newer = Given.hotfix(house, 0);
        house.release(normal, promoting);
        house.release(newer, promoting);
        house.release(older, promoting);
        Check.same("15: three in one minute", house.pass(1), 3);
        Check.same("15: the first hotfix is done", house.state(1), 2);
        Check.same("15: the second one comes behind it", house.state(2), 4);
        Check.same("15: the other one comes last", house.state(0), 4);
        Check.same("15: one effect", house.effects(), 1);
    }

    private static void passWaits() {
        ReleaseHouse house = new ReleaseHouse();
        house.pass(5);
        house.release(Given.easy(house, 0), Given.program(house, Given.await(3), Given.await(2), Given.await(0)));
        int[] due = {0, 0, 1, 1, 2, 3};
        for (int i = 0; i < due.length; i++) {
            house.pass(1);
            Check.same("15: at, " + (i + 1) + " minutes behind the beginning", house.at(0), due[i]);
        }
    }

    private static void overtaking() {
        ReleaseHouse house = new ReleaseHouse();
        int inTwo = Given.program(house, Given.share(1, 10), Given.share(0, 10), Given.await(99));
        int hot = Given.program(house, Given.share(0, 60), Given.await(1), Given.promote(0));
        int elsewhere = Given.program(house, Given.share(2, 10), Given.await(99));
        house.release(Given.easy(house, 0), inTwo);
        house.release(Given.easy(house, 0), elsewhere);
        house.pass(2);
        house.release(Given.hotfix(house, 0), hot);
        house.pass(1);
        Check.same("15: overtaken", house.state(0), 1);
        Check.same("15: at its step still", house.at(0), 2);
        Check.same("15: loses its candidate", house.candidate(0, 0), 2);
        Check.same("15: and the one in the other ring", house.candidate(0, 1), Given.NONE);
        Check.same("15: one elsewhere goes on", house.state(1), 0);
        Check.same("15: three and two effects", house.effects(), 5);
        house.pass(1);
        Check.same("15: it does nothing", house.at(0), 2);
        Check.same("15: stopping it is no matter", house.stop(0), 0);
        Check.same("15: stopped", house.state(0), 3);
        Check.same("15: nothing is lost by that", house.effects(), 5);
    }

    private static void runsAgain() {
        ReleaseHouse house = new ReleaseHouse();
        int program = Given.program(house, Given.approvals(1), Given.await(2), Given.share(0, 10), Given.await(99));
        int hot = Given.program(house, Given.share(0, 60), Given.await(99));
        int foreign = Given.program(house, Given.await(0));
        house.release(Given.hotfix(house, 0), hot);
        int normal = house.release(Given.easy(house, 0), program);
        house.approve(normal, 1);
        house.stop(0);
        house.pass(4);
        Check.same("15: it is shared", house.at(normal), 3);
        int again = house.release(0, hot);
        house.pass(1);
        Check.same("15: overtaken by an older one", house.state(normal), 1);
        house.release(Given.hotfix(house, 1), foreign);
        house.pass(1);
        Check.same("15: a hotfix of another service has ended", house.state(normal), 1);
        house.release(Given.easy(house, 0), foreign);
        house.pass(1);
        Check.same("15: another one has ended that is no hotfix", house.state(normal), 1);
        house.stop(again);
        Check.same("15: runs again", house.state(normal), 0);
        Check.same("15: from its first step", house.at(normal), 0);
        Check.same("15: with its approvals", house.pass(1), 1);
        Check.same("15: waits anew", house.pass(1), 0);
        Check.same("15: as long as the first time", house.pass(1), 1);
    }

    private static void die() {
        ReleaseHouse house = new ReleaseHouse();
        int program = Given.program(house, Given.promote(0), Given.await(0));
        house.die(false);
        house.pass(1);
        Check.no("18: nothing went on", house.isDead());
        house.release(Given.easy(house, 0), program);
        house.release(Given.easy(house, 1), program);
        house.die(true);
        house.die(false);
        Check.no("18: told only", house.isDead());
        Check.same("16: nothing is noted", house.pass(1), 0);
        Check.yes("18: dead", house.isDead());
        Check.same("16: ahead of the effect", house.effects(), 0);
        Check.same("16: the next one does nothing", house.at(1), 0);
        Check.badState("16: it is dead", () -> house.die(true));
        Check.same("16: no more steps", house.pass(3), 0);
        house.rise();
        house.die(false);
        house.die(true);
        Check.same("16: again nothing is noted", house.pass(1), 0);
        Check.same("16: behind the effect", house.effects(), 1);
        Check.same("16: at the step still", house.at(0), 0);
        Check.same("16: stable", house.stable(0, 0), 0);
        Check.same("16: the next one does nothing", house.stable(1, 0), Given.NONE);
        Check.same("16: data goes on", house.units(0, 0), 0);
        house.pass(2);
        Check.same("16: each minute", house.units(0, 0), 2);
        house.rise();
        Check.same("16: both go on", house.pass(1), 2);
        Check.same("16: the effect is not done again", house.effects(), 2);
        Check.same("11: an effect counts, be it noted or not", house.stop(0), 1);
    }

    private static void dieByKinds() {
        ReleaseHouse house = new ReleaseHouse();
        int program = Given.program(house, Given.await(0), Given.approvals(0), Given.share(0, 5), Given.share(0, 6));
        house.release(Given.easy(house, 0), program);
        for (int step = 0; step < 4; step++) {
            for (int way = 0; way < 2; way++) {
                house.die(way == 1);
                Check.same("16: dies at each step that goes on", house.pass(1), 0);
                Check.yes("18: dead", house.isDead());
                Check.same("16: not noted", house.at(0), step);
                house.rise();
            }
            Check.same("16: effects", house.effects(), step < 2 ? 0 : step - 1);
            Check.same("16: noted by the next", house.pass(1), 1);
        }
        Check.same("16: done", house.state(0), 2);
    }

    private static void dieAtStopAndSkip() {
        ReleaseHouse house = new ReleaseHouse();
        int promoting = Given.program(house, Given.promote(0));
        int program = Given.program(house, Given.share(0, 50), Given.judge(0));
        Given.stable(house, 0, promoting);
        int bad = house.release(Given.easy(house, 0), program);
        house.pass(1);
        Given.measures(house, 8, true, true, 0);
        Given.measures(house, 8, false, false, 0);
        house.die(false);
        Check.same("16: ahead of the stop", house.pass(1), 0);
        Check.same("16: not stopped", house.state(bad), 0);
        house.rise();
        house.die(true);
        Check.same("16: the stop is noted with its effect", house.pass(1), 1);
        Check.same("16: stopped", house.state(bad), 3);
        Check.same("16: the candidate is lost", house.candidate(0, 0), Given.NONE);
        Check.yes("18: dead", house.isDead());
        ReleaseHouse other = new ReleaseHouse();
        int older = Given.easy(other, 0);
        int only = Given.program(other, Given.promote(0));
        Given.stable(other, 0, only);
        other.release(older, only);
        other.die(false);
        Check.same("16: ahead of the skip", other.pass(1), 0);
        Check.same("16: not skipped", other.state(1), 0);
        other.rise();
        other.die(true);
        Check.same("16: the skip is noted with its effect", other.pass(1), 1);
        Check.same("16: skipped", other.state(1), 4);
        Check.yes("18: dead", other.isDead());
    }

    private static void rise() {
        ReleaseHouse house = new ReleaseHouse();
        Check.badState("17: it is alive", house::rise);
        int waiting = Given.program(house, Given.await(50));
        int sharing = Given.program(house, Given.share(0, 10), Given.await(50));
        house.release(Given.easy(house, 0), waiting);
        house.release(Given.easy(house, 0), sharing);
        house.release(Given.easy(house, 1), waiting);
        house.stop(2);
        house.release(Given.easy(house, 2), waiting);
        house.pass(1);
        house.release(Given.hotfix(house, 0), sharing);
        house.die(true);
        Check.badState("17: told, but alive", house::rise);
        house.pass(1);
        Check.same("17: neither overtaken nor stopped", house.rise(), 3);
        Check.no("18: alive", house.isDead());
        Check.badState("17: alive again", house::rise);
        Check.same("17: overtaken by the effect", house.state(1), 1);
        house.pass(1);
        Check.no("17: the next one was not told to die", house.isDead());
    }

    private static void effects() {
        ReleaseHouse house = new ReleaseHouse();
        int program = Given.program(house, Given.share(0, 10), Given.share(0, 10), Given.share(0, 20),
                Given.share(1, 20), Given.promote(0), Given.promote(0), Given.share(0, 5), Given.await(50));
        house.release(Given.easy(house, 0), program);
        int[] due = {1, 1, 2, 3, 4, 4, 4, 4};
        for (int i = 0; i < due.length; i++) {
            house.pass(1);
            Check.same("19: behind the step " + i, house.effects(), due[i]);
        }
        Check.same("19: stable and candidate in one ring are one", house.candidate(0, 0), Given.NONE);
        house.stop(0);
        Check.same("19: a candidate is lost", house.effects(), 5);
    }
}
