/** Promises 47 to 55: flags and experiments. */
public final class FlagTest {
    public static void main(String[] args) {
        flag();
        percentage();
        needs();
        target();
        rules();
        outcomes();
        kill();
        setPlan();
        isOn();
        stale();
        experiment();
        conclude();
        arm();
        armsBySeats();
        Check.finish();
    }

    private static void flag() {
        ReleaseHouse house = new ReleaseHouse();
        int[][] wrong = {{-1, 0, -1}, {8, 0, -1}, {0, -1, -1}, {0, 101, -1}, {0, 0, -2}, {0, 0, 8}};
        for (int[] w : wrong) {
            Check.badArgument("47: " + java.util.Arrays.toString(w), () -> house.flag(w[0], w[1], w[2]));
        }
        Check.badState("47: itself", () -> house.flag(3, 0, 3));
        for (int f = 1; f < 8; f++) {
            house.flag(f, 100, f - 1);
        }
        Check.badState("47: by way of one", () -> house.flag(0, 100, 1));
        Check.badState("47: by way of seven", () -> house.flag(0, 100, 7));
        Check.badArgument("47: the argument goes first", () -> house.flag(0, 101, 7));
        house.flag(0, 100, -1);
        Check.yes("47: by a long way", house.isOn(7, 199));
        house.flag(4, 100, -1);
        house.flag(0, 0, 7);
        Check.yes("47: the chain is another one now", house.isOn(7, 199));
        Check.no("47: which ends with this one", house.isOn(0, 199));
    }

    private static void percentage() {
        ReleaseHouse house = new ReleaseHouse();
        int[] percentages = {0, 1, 29, 50, 99, 100};
        for (int percentage : percentages) {
            for (int f = 0; f < 8; f += 7) {
                house.flag(f, percentage, -1);
                for (int customer = 0; customer < 200; customer += 13) {
                    boolean due = (53 * customer + 29 * f) % 100 < percentage;
                    Check.yes("51: by its percentage", house.isOn(f, customer) == due);
                }
            }
        }
        house.flag(1, 29, -1);
        Check.no("51: 29 is not below 29", house.isOn(1, 0));
        house.flag(1, 30, -1);
        Check.yes("51: 29 is below 30", house.isOn(1, 0));
    }

    private static void needs() {
        ReleaseHouse house = new ReleaseHouse();
        house.flag(0, 50, -1);
        house.flag(1, 100, 0);
        house.flag(2, 100, 1);
        Check.yes("51: what it needs is on", house.isOn(2, 0));
        Check.no("51: what it needs is off", house.isOn(2, 1));
        house.target(2, 0, true, 0, 1);
        Check.no("51: ahead of its rules", house.isOn(2, 1));
        house.target(0, 0, false, 1, 1);
        Check.yes("51: on by a rule of the other one", house.isOn(2, 1));
        house.kill(1);
        Check.no("51: the one between is killed", house.isOn(2, 1));
        Check.yes("51: the first one is not", house.isOn(0, 1));
        house.flag(2, 0, -1);
        Check.yes("51: needs none, and keeps its rule", house.isOn(2, 1));
    }

    private static void target() {
        ReleaseHouse house = new ReleaseHouse();
        int[][] wrong = {
            {-1, 0, 0, 0}, {8, 0, 0, 0}, {0, -1, 0, 0}, {0, 3, 0, 0}, {0, 0, -1, 0}, {0, 0, 7, 0}, {0, 0, 0, -1},
            {0, 0, 0, 101},
        };
        for (int[] w : wrong) {
            Check.badArgument("48: " + java.util.Arrays.toString(w),
                    () -> house.target(w[0], w[1], true, w[2], w[3]));
        }
        for (int i = 1; i <= 4; i++) {
            Check.same("48: how many", house.target(7, 2, i % 2 == 0, 6, 100), i);
        }
        Check.badState("48: it has 4", () -> house.target(7, 0, true, 0, 0));
        Check.badArgument("48: the argument goes first", () -> house.target(7, 0, true, 0, 101));
        Check.same("48: of another flag", house.target(6, 0, true, 0, 0), 1);
    }

    private static void rules() {
        ReleaseHouse house = new ReleaseHouse();
        house.target(0, 0, false, 1, 1);
        house.target(1, 0, true, 1, 1);
        house.target(2, 1, false, 3, 1);
        house.target(3, 1, true, 3, 1);
        house.target(4, 2, false, 2, 1);
        house.target(5, 2, true, 2, 1);
        for (int customer = 0; customer < 12; customer++) {
            int ring = customer % 10 == 0 ? 0 : customer % 10 <= 3 ? 1 : 2;
            house.setPlan(customer, customer % 4);
            Check.yes("48: the ring", house.isOn(0, customer) == (ring == 1));
            Check.yes("48: the ring at least", house.isOn(1, customer) == (ring >= 1));
            Check.yes("48: by 7", house.isOn(2, customer) == (customer % 7 == 3));
            Check.yes("48: by 7 at least", house.isOn(3, customer) == (customer % 7 >= 3));
            Check.yes("48: the plan", house.isOn(4, customer) == (customer % 4 == 2));
            Check.yes("48: the plan at least", house.isOn(5, customer) == (customer % 4 >= 2));
        }
        house.target(6, 0, false, 0, 0);
        house.target(6, 0, true, 0, 1);
        house.flag(6, 100, -1);
        Check.no("48: the first one that meets", house.isOn(6, 10));
        Check.yes("48: not one that does not", house.isOn(6, 11));
    }

    private static void outcomes() {
        ReleaseHouse house = new ReleaseHouse();
        int[] outcomes = {0, 1, 2, 57, 100};
        for (int f = 0; f < outcomes.length; f++) {
            house.flag(f, f == 0 ? 100 : 0, -1);
            house.target(f, 0, true, 0, outcomes[f]);
            for (int customer = 0; customer < 200; customer += 7) {
                int place = (53 * customer + 29 * f) % 100;
                boolean due = outcomes[f] == 1 || outcomes[f] > 1 && place < outcomes[f];
                Check.yes("48: outcome " + outcomes[f], house.isOn(f, customer) == due);
            }
        }
    }

    private static void kill() {
        ReleaseHouse house = new ReleaseHouse();
        house.flag(5, 100, -1);
        house.target(5, 0, true, 0, 1);
        Check.yes("49: killed", house.kill(5));
        Check.no("49: off, whatever the rules", house.isOn(5, 0));
        house.flag(5, 100, -1);
        Check.no("49: set anew, killed still", house.isOn(5, 0));
        Check.no("49: is again", house.kill(5));
        Check.yes("49: on", house.isOn(5, 0));
        Check.yes("49: the first flag", house.kill(0));
        Check.yes("49: the last flag", house.kill(7));
        Check.badArgument("49: no such flag", () -> house.kill(8));
        Check.badArgument("49: below 0", () -> house.kill(-1));
    }

    private static void setPlan() {
        ReleaseHouse house = new ReleaseHouse();
        house.target(0, 2, false, 0, 1);
        house.target(1, 2, false, 6, 1);
        Check.yes("50: 0 at first", house.isOn(0, 199));
        house.setPlan(199, 6);
        Check.yes("50: 6", house.isOn(1, 199));
        Check.no("50: of another customer", house.isOn(1, 198));
        Check.badArgument("50: no such customer", () -> house.setPlan(200, 0));
        Check.badArgument("50: customer below 0", () -> house.setPlan(-1, 0));
        Check.badArgument("50: no such plan", () -> house.setPlan(0, 7));
        Check.badArgument("50: plan below 0", () -> house.setPlan(0, -1));
    }

    private static void isOn() {
        ReleaseHouse house = new ReleaseHouse();
        Check.no("51: 0 at first", house.isOn(0, 0));
        Check.badArgument("51: no such flag", () -> house.isOn(8, 0));
        Check.badArgument("51: flag below 0", () -> house.isOn(-1, 0));
        Check.badArgument("51: no such customer", () -> house.isOn(0, 200));
        Check.badArgument("51: customer below 0", () -> house.isOn(0, -1));
    }

    private static void stale() {
        ReleaseHouse house = new ReleaseHouse();
        house.flag(1, 100, 0);
        house.flag(2, 100, 1);
        house.experiment(0, 3, 0, 99, 2);
        house.pass(200);
        house.pass(200);
        house.pass(99);
        Check.same("52: 499 minutes", house.stale(), 0);
        house.isOn(2, 0);
        house.arm(0, 0);
        Check.badArgument("51: no such customer", () -> house.isOn(4, 200));
        house.pass(1);
        Check.same("52: neither those that it needs nor that of an arm", house.stale(), 251);
        house.isOn(7, 0);
        Check.same("52: asked for", house.stale(), 123);
        house.pass(200);
        house.pass(200);
        house.pass(98);
        Check.same("52: 499 since", house.stale(), 123);
        house.pass(1);
        Check.same("52: 500 since", house.stale(), 127);
        house.pass(1);
        Check.same("52: all", house.stale(), 255);
    }

    private static void experiment() {
        ReleaseHouse house = new ReleaseHouse();
        int[][] wrong = {
            {-1, 0, 0, 9, 2}, {3, 0, 0, 9, 2}, {0, -1, 0, 9, 2}, {0, 8, 0, 9, 2}, {0, 0, -1, 9, 2},
            {0, 0, 100, 100, 2}, {0, 0, 5, 4, 2}, {0, 0, 5, 100, 2}, {0, 0, 0, 9, 1}, {0, 0, 0, 9, 5},
        };
        for (int[] w : wrong) {
            Check.badArgument("53: " + java.util.Arrays.toString(w),
                    () -> house.experiment(w[0], w[1], w[2], w[3], w[4]));
        }
        Check.same("53: its number", house.experiment(0, 0, 10, 20, 2), 0);
        int[][] shared = {{20, 30}, {0, 10}, {12, 15}, {0, 99}, {10, 20}};
        for (int[] s : shared) {
            Check.badState("53: a seat is of another one", () -> house.experiment(0, 0, s[0], s[1], 2));
        }
        Check.same("53: below it", house.experiment(0, 7, 9, 9, 4), 1);
        Check.same("53: above it", house.experiment(0, 0, 21, 99, 3), 2);
        Check.same("53: in another layer", house.experiment(2, 0, 0, 99, 2), 3);
        Check.same("53: of the last seat alone", new ReleaseHouse().experiment(2, 7, 99, 99, 4), 0);
        house.conclude(0);
        for (int i = 4; i < 8; i++) {
            Check.same("53: seats that are free", house.experiment(0, 0, 10 + i, 10 + i, 2), i);
        }
        Check.badState("53: there are 8", () -> house.experiment(1, 0, 0, 0, 2));
        Check.badArgument("53: the argument goes first", () -> house.experiment(1, 0, 0, 0, 1));
    }

    private static void conclude() {
        ReleaseHouse house = new ReleaseHouse();
        Check.noSuch("54: none", () -> house.conclude(0));
        house.flag(0, 100, -1);
        house.experiment(0, 0, 0, 99, 2);
        Check.same("55: an arm", house.arm(0, 0), 0);
        house.conclude(0);
        Check.badState("54: has ended", () -> house.conclude(0));
        Check.same("55: no arm", house.arm(0, 0), Given.NONE);
        Check.same("54: its seats are free", house.experiment(0, 0, 0, 99, 2), 1);
        house.conclude(1);
        Check.noSuch("54: no such experiment", () -> house.conclude(2));
        Check.noSuch("54: below 0", () -> house.conclude(-1));
    }

    private static void arm() {
        ReleaseHouse house = new ReleaseHouse();
        Check.noSuch("55: none", () -> house.arm(0, 200));
        house.flag(0, 50, -1);
        house.flag(1, 100, 0);
        house.experiment(0, 1, 0, 99, 2);
        Check.same("55: the flag is on", house.arm(0, 0), 0);
        Check.same("55: what it needs is off", house.arm(0, 1), Given.NONE);
        house.kill(1);
        Check.same("55: the flag is off", house.arm(0, 0), Given.NONE);
        Check.badArgument("55: no such customer", () -> house.arm(0, 200));
        Check.badArgument("55: below 0", () -> house.arm(0, -1));
        Check.noSuch("55: no such experiment", () -> house.arm(1, 0));
        Check.noSuch("55: experiment below 0", () -> house.arm(-1, 0));
    }

    private static void armsBySeats() {
        for (int layer = 0; layer < 3; layer++) {
            ReleaseHouse house = new ReleaseHouse();
            house.flag(0, 100, -1);
            house.experiment(layer, 0, 20, 70, 2 + layer);
            for (int customer = 0; customer < 200; customer++) {
                int seat = (61 * customer + 17 * layer) % 100;
                boolean isIn = seat >= 20 && seat <= 70;
                Check.same("55: by the seat", house.arm(0, customer), isIn ? (seat - 20) % (2 + layer) : Given.NONE);
            }
        }
    }
}
