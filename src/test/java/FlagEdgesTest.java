/** Promises 47 to 55, sentence by sentence: the edges that the document names. */
public final class FlagEdgesTest {
    private static final int NONE = ReleaseHouse.NONE;

    public static void main(String[] args) {
        flag();
        flagNeeds();
        target();
        targetMeets();
        kill();
        setPlan();
        isOn();
        percentages();
        stale();
        experiment();
        experimentSeats();
        conclude();
        arm();
        arms();
        Check.finish();
    }

    private static void flag() {
        Refusal.World none = ReleaseHouse::new;
        Check.test("47: flag: 0 to 7", () -> Refusal.range(none, 0, 7, (house, n) -> house.flag(n, 50, NONE)));
        Check.test("47: percentage: 0 to 100", () -> Refusal.range(none, 0, 100, (house, n) -> house.flag(0, n, NONE)));
        Check.test("47: needs: a flag; NONE for none", () -> {
            for (int needed = NONE; needed < 7; needed++) {
                ReleaseHouse house = new ReleaseHouse();
                house.flag(7, 100, needed);
                Check.yes("needs " + needed, house.isOn(7, 0) == (needed == NONE));
            }
            new ReleaseHouse().flag(0, 100, 7);
            for (int wrong : new int[] {-2, 8, Integer.MIN_VALUE, Integer.MAX_VALUE}) {
                Refusal.badArgument("" + wrong, none, house -> house.flag(0, 50, wrong));
            }
        });
        Check.test("47: a percentage, 0 at first", () -> {
            for (int flag = 0; flag < 8; flag++) {
                for (int customer = 0; customer < 20; customer++) {
                    Check.no("flag " + flag, new ReleaseHouse().isOn(flag, customer));
                }
            }
        });
        Check.test("47: sets it anew", () -> {
            ReleaseHouse house = new ReleaseHouse();
            house.flag(3, 100, NONE);
            Check.yes("on", house.isOn(3, 199));
            house.flag(3, 0, NONE);
            Check.no("off", house.isOn(3, 199));
            Check.no("another one as it was", house.isOn(2, 0));
        });
    }

    /** Each flag needs the one below it, but the flag 0, which needs none; all of them are on. */
    private static ReleaseHouse withChain() {
        ReleaseHouse house = new ReleaseHouse();
        for (int flag = 0; flag < 8; flag++) {
            house.flag(flag, 100, flag - 1);
        }
        return house;
    }

    private static void flagNeeds() {
        Check.test("47: throws if the flag would need itself", () -> {
            for (int flag = 0; flag < 8; flag++) {
                int f = flag;
                Refusal.badState("flag " + f, ReleaseHouse::new, house -> house.flag(f, 50, f));
            }
        });
        Check.test("47: be it by way of others", () -> {
            for (int flag = 1; flag < 8; flag++) {
                int f = flag;
                Refusal.badState("by way of " + f, FlagEdgesTest::withChain, house -> house.flag(0, 50, f));
            }
            Refusal.badState("in the middle", FlagEdgesTest::withChain, house -> house.flag(3, 50, 5));
        });
        Check.test("47: none that does not", () -> {
            ReleaseHouse house = withChain();
            house.flag(7, 100, 0);
            house.flag(6, 100, 7);
            Check.yes("another chain", house.isOn(6, 0));
            house.flag(1, 100, NONE);
            house.flag(0, 100, 5);
            Check.yes("the chain began elsewhere", house.isOn(7, 0));
            Check.badState("and ends here", () -> house.flag(1, 100, 6));
        });
        Check.test("47: of several exceptions it is the first one",
                () -> Refusal.badArgument("percentage and itself", ReleaseHouse::new, house -> house.flag(0, 101, 0)));
    }

    private static ReleaseHouse withRules(int count) {
        ReleaseHouse house = new ReleaseHouse();
        for (int i = 1; i <= count; i++) {
            Check.same("how many it has then", house.target(0, 0, false, 6, 0), i);
        }
        return house;
    }

    private static void target() {
        Refusal.World none = ReleaseHouse::new;
        Check.test("48: flag: 0 to 7", () -> Refusal.range(none, 0, 7, (house, n) -> house.target(n, 0, true, 0, 0)));
        Check.test("48: attribute: 0 to 2",
                () -> Refusal.range(none, 0, 2, (house, n) -> house.target(0, n, true, 0, 0)));
        Check.test("48: number: 0 to 6", () -> Refusal.range(none, 0, 6, (house, n) -> house.target(0, 0, true, n, 0)));
        Check.test("48: outcome: 0 to 100", () -> Refusal.range(none, 0, 100,
                (house, n) -> house.target(0, 0, true, 0, n)));
        Check.test("48: at most 4 rules", () -> {
            Check.same("the other flag has none", withRules(4).target(1, 0, true, 0, 0), 1);
            Refusal.badState("it has 4", () -> withRules(4), house -> house.target(0, 0, true, 0, 0));
        });
        Check.test("48: the fourth one counts, and its percentage behind it", () -> {
            ReleaseHouse house = withRules(3);
            Check.no("none meets", house.isOn(0, 0));
            house.target(0, 0, false, 0, 1);
            Check.yes("the fourth one meets", house.isOn(0, 0));
            Check.no("it does not meet", house.isOn(0, 1));
            house.flag(0, 100, NONE);
            Check.yes("none meets, by its percentage", house.isOn(0, 1));
        });
        Check.test("48: of several exceptions it is the first one", () -> Refusal.badArgument("outcome and 4",
                () -> withRules(4), house -> house.target(0, 0, true, 0, 101)));
        Check.test("48: by the first rule that meets the customer", () -> {
            ReleaseHouse house = new ReleaseHouse();
            house.target(0, 0, false, 1, 1);
            house.target(0, 0, true, 1, 0);
            house.target(0, 0, true, 0, 1);
            Check.yes("the third one", house.isOn(0, 0));
            Check.yes("the first one", house.isOn(0, 1));
            Check.no("the second one", house.isOn(0, 4));
        });
    }

    private static int attributeOf(int customer, int attribute, int plan) {
        int ring = customer % 10 == 0 ? 0 : customer % 10 < 4 ? 1 : 2;
        return attribute == 0 ? ring : attribute == 1 ? customer % 7 : plan;
    }

    private static void targetMeets() {
        Check.test("48: the same, or at least that: 0 the ring, 1 the remainder by 7, 2 the plan", () -> {
            int[] customers = {0, 1, 3, 4, 6, 7, 9, 10, 13, 14, 195, 196, 199};
            for (int attribute = 0; attribute < 3; attribute++) {
                for (int number = 0; number <= 6; number++) {
                    ReleaseHouse house = new ReleaseHouse();
                    house.target(0, attribute, false, number, 1);
                    house.target(1, attribute, true, number, 1);
                    for (int i = 0; i < customers.length; i++) {
                        house.setPlan(customers[i], i % 7);
                        int value = attributeOf(customers[i], attribute, i % 7);
                        String what = "attribute " + attribute + " is " + value + ", number " + number;
                        Check.yes("the same, " + what, house.isOn(0, customers[i]) == (value == number));
                        Check.yes("at least, " + what, house.isOn(1, customers[i]) == (value >= number));
                    }
                }
            }
        });
        Check.test("48: outcome: 0 off, 1 on, 2 to 100 a percentage", () -> {
            for (int outcome : new int[] {0, 1, 2, 3, 50, 99, 100}) {
                ReleaseHouse house = new ReleaseHouse();
                house.flag(0, outcome == 0 ? 100 : 0, NONE);
                house.target(0, 0, true, 0, outcome);
                for (int customer = 0; customer < 100; customer++) {
                    boolean due = outcome == 1 || outcome > 1 && 53 * customer % 100 < outcome;
                    Check.yes("outcome " + outcome + ", customer " + customer, house.isOn(0, customer) == due);
                }
            }
        });
    }

    private static void kill() {
        Check.test("49: flag: 0 to 7", () -> Refusal.range(ReleaseHouse::new, 0, 7, ReleaseHouse::kill));
        Check.test("49: returns whether it is killed then", () -> {
            ReleaseHouse house = new ReleaseHouse();
            for (int i = 0; i < 24; i++) {
                Check.yes("flag " + i % 8, house.kill(i % 8) == (i / 8 != 1));
            }
        });
        Check.test("49: a flag is off, if it is killed", () -> {
            ReleaseHouse house = withChain();
            house.target(0, 0, true, 0, 1);
            house.kill(0);
            Check.no("whatever its rules and its percentage", house.isOn(0, 0));
            Check.no("and all that need it", house.isOn(7, 0));
            house.kill(0);
            Check.yes("again", house.isOn(7, 0));
        });
    }

    private static void setPlan() {
        Refusal.World none = ReleaseHouse::new;
        Check.test("50: customer: 0 to 199", () -> Refusal.range(none, 0, 199, (house, n) -> house.setPlan(n, 1)));
        Check.test("50: plan: 0 to 6", () -> Refusal.range(none, 0, 6, (house, n) -> house.setPlan(0, n)));
        Check.test("50: the plan, 0 at first", () -> {
            ReleaseHouse house = new ReleaseHouse();
            house.target(0, 2, false, 0, 1);
            for (int customer = 0; customer < 200; customer += 199) {
                Check.yes("0", house.isOn(0, customer));
                house.setPlan(customer, 6);
                Check.no("6", house.isOn(0, customer));
                house.setPlan(customer, 0);
                Check.yes("0 again", house.isOn(0, customer));
            }
        });
        Check.test("50: of a customer", () -> {
            ReleaseHouse house = new ReleaseHouse();
            house.target(0, 2, true, 1, 1);
            house.setPlan(100, 1);
            for (int customer = 0; customer < 200; customer++) {
                Check.yes("this one alone, customer " + customer, house.isOn(0, customer) == (customer == 100));
            }
        });
    }

    private static void isOn() {
        Check.test("51: flag: 0 to 7", () -> Refusal.range(ReleaseHouse::new, 0, 7, (house, n) -> house.isOn(n, 0)));
        Check.test("51: customer: 0 to 199",
                () -> Refusal.range(ReleaseHouse::new, 0, 199, (house, n) -> house.isOn(0, n)));
        Check.test("51: or needs one that is off", () -> {
            for (int off = 0; off < 8; off++) {
                ReleaseHouse house = withChain();
                house.flag(off, 0, off - 1);
                for (int flag = 0; flag < 8; flag++) {
                    Check.yes("flag " + flag + ", off is " + off, house.isOn(flag, 0) == flag < off);
                }
            }
        });
        Check.test("51: what it needs goes ahead of its rules", () -> {
            ReleaseHouse house = new ReleaseHouse();
            house.flag(1, 100, 0);
            house.target(1, 0, true, 0, 1);
            Check.no("that is off", house.isOn(1, 0));
            house.target(0, 0, true, 0, 1);
            Check.yes("that is on by a rule", house.isOn(1, 0));
        });
        Check.test("51: for this customer", () -> {
            ReleaseHouse house = new ReleaseHouse();
            house.flag(0, 54, NONE);
            house.flag(1, 100, 0);
            Check.yes("that is on for the customer 1", house.isOn(1, 1));
            Check.no("that is off for the customer 3", house.isOn(1, 3));
        });
    }

    /** Whether it is on by a percentage of one more than the place, and off by one of the place. */
    private static void hasPlace(int flag, int customer, int place) {
        ReleaseHouse house = new ReleaseHouse();
        house.flag(flag, place, NONE);
        Check.no("flag " + flag + ", customer " + customer + ", at " + place, house.isOn(flag, customer));
        house.flag(flag, place + 1, NONE);
        Check.yes("flag " + flag + ", customer " + customer + ", above " + place, house.isOn(flag, customer));
    }

    private static void percentages() {
        Check.test("51: the remainder by 100 of 53 times the customer, plus 29 times the flag, is below it", () -> {
            hasPlace(0, 0, 0);
            hasPlace(0, 1, 53);
            hasPlace(0, 2, 6);
            hasPlace(7, 0, 3);
            hasPlace(1, 0, 29);
            hasPlace(3, 1, 40);
            hasPlace(0, 100, 0);
            hasPlace(0, 83, 99);
            hasPlace(7, 199, 50);
            hasPlace(1, 167, 80);
        });
        Check.test("51: by 0 it is off, by 100 on", () -> {
            ReleaseHouse house = new ReleaseHouse();
            house.flag(6, 100, NONE);
            for (int customer = 0; customer < 200; customer++) {
                Check.no("off", house.isOn(5, customer));
                Check.yes("on", house.isOn(6, customer));
            }
        });
    }

    private static void stale() {
        Check.test("52: if 500 minutes or more have gone by since the minute 0, if it never was asked for", () -> {
            Check.same("0", new ReleaseHouse().stale(), 0);
            Check.same("499", Given.atMinute(499).stale(), 0);
            Check.same("500", Given.atMinute(500).stale(), 255);
            Check.same("501", Given.atMinute(501).stale(), 255);
            Check.same("20000", Given.atMinute(20000).stale(), 255);
        });
        Check.test("52: since it was last asked for by isOn()", () -> {
            for (int flag = 0; flag < 8; flag++) {
                ReleaseHouse house = Given.atMinute(3);
                house.isOn(flag, 0);
                Given.goOn(house, 4);
                house.isOn(flag, 0);
                Given.goOn(house, 499);
                Check.same("499 of the flag " + flag, house.stale(), 255 - (1 << flag));
                Given.goOn(house, 1);
                Check.same("500 of the flag " + flag, house.stale(), 255);
                house.isOn(flag, 199);
                Check.same("asked for again", house.stale(), 255 - (1 << flag));
            }
        });
        Check.test("51: asks for it, but not for those that it needs", () -> {
            ReleaseHouse house = withChain();
            Given.goOn(house, 500);
            Check.yes("on", house.isOn(7, 0));
            Check.same("all others are stale", house.stale(), 127);
        });
        Check.test("51: asks for one that is killed, too", () -> {
            ReleaseHouse house = withChain();
            house.kill(0);
            Given.goOn(house, 500);
            Check.no("off", house.isOn(0, 0));
            Check.same("all others are stale", house.stale(), 254);
        });
        Check.test("52: what is refused, and other calls, do not ask for it", () -> {
            ReleaseHouse house = Given.atMinute(500);
            Check.badArgument("customer", () -> house.isOn(0, 200));
            Check.badArgument("flag", () -> house.isOn(8, 0));
            house.flag(1, 100, NONE);
            house.target(2, 0, true, 0, 1);
            house.kill(3);
            house.experiment(0, 4, 0, 99, 2);
            house.arm(0, 0);
            Check.same("all are stale", house.stale(), 255);
        });
        Check.test("55: does not ask for its flag as isOn() does", () -> {
            ReleaseHouse house = withExperiment(0, 0, 99, 2);
            Given.goOn(house, 500);
            Check.same("one who is in it", house.arm(0, 0), 0);
            house.conclude(0);
            Check.same("all are stale", house.stale(), 255);
        });
    }

    private static ReleaseHouse withExperiments(int count) {
        ReleaseHouse house = new ReleaseHouse();
        for (int i = 0; i < count; i++) {
            Check.same("its number", house.experiment(0, i, i, i, 2), i);
        }
        return house;
    }

    private static void experiment() {
        Refusal.World none = ReleaseHouse::new;
        Check.test("53: layer: 0 to 2",
                () -> Refusal.range(none, 0, 2, (house, n) -> house.experiment(n, 0, 0, 99, 2)));
        Check.test("53: flag: 0 to 7", () -> Refusal.range(none, 0, 7, (house, n) -> house.experiment(0, n, 0, 99, 2)));
        Check.test("53: from: the first seat, 0 to 99", () -> Refusal.range(none, 0, 99,
                (house, n) -> house.experiment(0, 0, n, 99, 2)));
        Check.test("53: to: the last seat, from to 99", () -> {
            Refusal.range(none, 0, 99, (house, n) -> house.experiment(0, 0, 0, n, 2));
            Refusal.range(none, 50, 99, (house, n) -> house.experiment(0, 0, 50, n, 2));
            Refusal.range(none, 99, 99, (house, n) -> house.experiment(0, 0, 99, n, 2));
        });
        Check.test("53: arms: 2 to 4", () -> Refusal.range(none, 2, 4, (house, n) -> house.experiment(0, 0, 0, 99, n)));
        Check.test("53: experiments are numbered from 0, at most 8", () -> {
            Check.same("the last one", withExperiments(7).experiment(0, 0, 99, 99, 4), 7);
            Refusal.badState("there are 8", () -> withExperiments(8), house -> house.experiment(0, 0, 99, 99, 4));
            Refusal.badState("in another layer", () -> withExperiments(8), house -> house.experiment(1, 0, 0, 0, 4));
        });
        Check.test("53: those that have ended are of the 8 too", () -> Refusal.badState("there are 8", () -> {
            ReleaseHouse house = withExperiments(8);
            for (int i = 0; i < 8; i++) {
                house.conclude(i);
            }
            return house;
        }, house -> house.experiment(0, 0, 0, 0, 2)));
        Check.test("53: of several exceptions it is the first one", () -> Refusal.badArgument("arms and 8",
                () -> withExperiments(8), house -> house.experiment(0, 0, 0, 0, 5)));
    }

    private static void experimentSeats() {
        Check.test("53: throws if a seat is of another one of the layer that has not ended", () -> {
            int[][] rows = {{0, 40}, {60, 99}, {40, 60}, {50, 50}, {0, 99}, {40, 40}, {60, 60}, {39, 61}};
            for (int[] row : rows) {
                Refusal.badState(row[0] + " to " + row[1], () -> {
                    ReleaseHouse house = new ReleaseHouse();
                    house.experiment(1, 0, 40, 60, 2);
                    return house;
                }, house -> house.experiment(1, 7, row[0], row[1], 2));
            }
        });
        Check.test("53: seats next to those of another one", () -> {
            ReleaseHouse house = new ReleaseHouse();
            house.experiment(1, 0, 40, 60, 2);
            Check.same("below", house.experiment(1, 0, 0, 39, 2), 1);
            Check.same("above", house.experiment(1, 0, 61, 99, 2), 2);
            Check.badState("the layer is full", () -> house.experiment(1, 0, 99, 99, 2));
        });
        Check.test("53: seats of another layer", () -> {
            ReleaseHouse house = new ReleaseHouse();
            for (int layer = 0; layer < 3; layer++) {
                Check.same("all of them", house.experiment(layer, 0, 0, 99, 2), layer);
            }
        });
        Check.test("53: seats of one that has ended", () -> {
            ReleaseHouse house = new ReleaseHouse();
            house.experiment(1, 0, 40, 60, 2);
            house.conclude(0);
            Check.same("all of them", house.experiment(1, 0, 40, 60, 2), 1);
        });
        Check.test("53: any of all that have not ended", () -> Refusal.badState("the first of seven",
                () -> withExperiments(7), house -> house.experiment(0, 0, 0, 0, 2)));
    }

    private static void conclude() {
        Check.test("54: throws if there is no such experiment", () -> {
            Refusal.numbers(() -> withExperiments(2), 2, ReleaseHouse::conclude);
            Refusal.noSuch("none at all", ReleaseHouse::new, house -> house.conclude(0));
        });
        Check.test("54: throws if it has ended", () -> Refusal.badState("twice", () -> {
            ReleaseHouse house = withExperiments(2);
            house.conclude(1);
            return house;
        }, house -> house.conclude(1)));
        Check.test("54: its seats are free", () -> {
            ReleaseHouse house = withExperiments(2);
            house.conclude(1);
            Check.same("all of them", house.experiment(0, 0, 1, 99, 2), 2);
            Check.badState("those of the other one are not", () -> house.experiment(0, 0, 0, 0, 2));
        });
    }

    /** The experiment 0 is on a flag that is on for all. */
    private static ReleaseHouse withExperiment(int layer, int from, int to, int arms) {
        ReleaseHouse house = new ReleaseHouse();
        house.flag(7, 100, NONE);
        house.experiment(layer, 7, from, to, arms);
        return house;
    }

    private static void arm() {
        Refusal.World one = () -> withExperiment(0, 0, 99, 2);
        Check.test("55: throws if there is no such experiment", () -> {
            Refusal.numbers(() -> withExperiments(2), 2, (house, n) -> house.arm(n, 0));
            Refusal.noSuch("none at all", ReleaseHouse::new, house -> house.arm(0, 0));
        });
        Check.test("55: customer: 0 to 199", () -> Refusal.range(one, 0, 199, (house, n) -> house.arm(0, n)));
        Check.test("55: of several exceptions it is the first one",
                () -> Refusal.noSuch("experiment and customer", one, house -> house.arm(1, 200)));
        Check.test("55: NONE if the customer is not in it: the seat", () -> {
            Check.same("the seat 0 of the seat 0", withExperiment(0, 0, 0, 2).arm(0, 0), 0);
            Check.same("the seat 0 of all others", withExperiment(0, 1, 99, 2).arm(0, 0), NONE);
            Check.same("the seat 61 of the seat 61", withExperiment(0, 61, 61, 2).arm(0, 1), 0);
            Check.same("the seat 61 of those below", withExperiment(0, 0, 60, 2).arm(0, 1), NONE);
            Check.same("the seat 61 of those above", withExperiment(0, 62, 99, 2).arm(0, 1), NONE);
        });
        Check.test("55: NONE if the customer is not in it: the flag", () -> {
            ReleaseHouse house = new ReleaseHouse();
            house.experiment(0, 7, 0, 99, 2);
            Check.same("it is off", house.arm(0, 0), NONE);
            house.target(7, 0, false, 0, 1);
            Check.same("it is on by a rule", house.arm(0, 0), 0);
            Check.same("which does not meet another one", house.arm(0, 1), NONE);
            house.flag(7, 100, 6);
            Check.same("it needs one that is off", house.arm(0, 0), NONE);
        });
        Check.test("55: NONE if it has ended", () -> {
            ReleaseHouse house = one.make();
            Check.same("it has not", house.arm(0, 0), 0);
            house.conclude(0);
            Check.same("it has", house.arm(0, 0), NONE);
        });
    }

    private static void arms() {
        Check.test("55: the seat is the remainder by 100 of 61 times the customer, plus 17 times the layer", () -> {
            int[][] rows = {
                {0, 0, 0}, {0, 1, 61}, {0, 2, 22}, {2, 0, 34}, {1, 83, 80}, {2, 199, 73}, {0, 59, 99}, {1, 103, 0},
            };
            for (int[] row : rows) {
                String what = "layer " + row[0] + ", customer " + row[1];
                Check.same(what, withExperiment(row[0], row[2], row[2], 2).arm(0, row[1]), 0);
                if (row[2] > 0) {
                    Check.same(what + ", below", withExperiment(row[0], 0, row[2] - 1, 2).arm(0, row[1]), NONE);
                }
                if (row[2] < 99) {
                    Check.same(what + ", above", withExperiment(row[0], row[2] + 1, 99, 2).arm(0, row[1]), NONE);
                }
            }
        });
        Check.test("55: the remainder of the seat, less the first seat, by how many arms there are", () -> {
            for (int arms = 2; arms <= 4; arms++) {
                for (int from : new int[] {0, 1, 37, 96}) {
                    ReleaseHouse house = withExperiment(0, from, 99, arms);
                    for (int customer = 0; customer < 100; customer++) {
                        int seat = 61 * customer % 100;
                        int due = seat < from ? NONE : (seat - from) % arms;
                        Check.same(arms + " arms, from " + from + ", seat " + seat, house.arm(0, customer), due);
                    }
                }
            }
        });
        Check.test("55: of one seat", () -> {
            Check.same("the first arm alone", withExperiment(0, 99, 99, 4).arm(0, 59), 0);
            Check.same("another seat", withExperiment(0, 99, 99, 4).arm(0, 58), NONE);
        });
    }
}
