/** Promises 33 to 37, sentence by sentence: the edges that the document names. */
public final class CanaryEdgesTest {
    public static void main(String[] args) {
        ranges();
        measure();
        beginsAnew();
        pairs();
        capital();
        verdict();
        slowness();
        badPart();
        Check.finish();
    }

    /** A stable artefact 0, and the candidate 1 by the release 1, of the service 0 in the ring 0. */
    private static ReleaseHouse withCanary() {
        ReleaseHouse house = new ReleaseHouse();
        Given.stable(house, 0, Given.program(house, Given.promote(0)));
        house.release(Given.easy(house, 0),
                Given.program(house, Given.share(0, 50), Given.share(0, 60), Given.approvals(1), Given.promote(0),
                        Given.await(99)));
        house.pass(1);
        return house;
    }

    /** There is a canary as above in each ring of the service 0, and in the ring 0 of each service. */
    private static ReleaseHouse withCanaries() {
        ReleaseHouse house = new ReleaseHouse();
        int stable = Given.program(house, Given.promote(0), Given.promote(1), Given.promote(2));
        int shares = Given.program(house, Given.share(0, 5), Given.share(1, 5), Given.share(2, 5), Given.await(99));
        for (int service = 0; service < 4; service++) {
            house.release(Given.easy(house, service), stable);
        }
        house.pass(3);
        for (int service = 0; service < 4; service++) {
            house.release(Given.easy(house, service), shares);
        }
        house.pass(3);
        return house;
    }

    private static void ranges() {
        Refusal.World canaries = CanaryEdgesTest::withCanaries;
        Check.test("33: service: 0 to 3",
                () -> Refusal.range(canaries, 0, 3, (house, n) -> house.measure(n, 0, true, true, 1)));
        Check.test("33: ring: 0 to 2",
                () -> Refusal.range(canaries, 0, 2, (house, n) -> house.measure(0, n, true, true, 1)));
        Check.test("33: millis: 0 to 60000",
                () -> Refusal.range(canaries, 0, 60000, (house, n) -> house.measure(0, 0, true, true, n)));
        Check.test("34: service: 0 to 3", () -> Refusal.range(canaries, 0, 3, (house, n) -> house.capital(n, 0)));
        Check.test("34: ring: 0 to 2", () -> Refusal.range(canaries, 0, 2, (house, n) -> house.capital(0, n)));
        Check.test("35: service: 0 to 3", () -> Refusal.range(canaries, 0, 3, (house, n) -> house.verdict(n, 0)));
        Check.test("35: ring: 0 to 2", () -> Refusal.range(canaries, 0, 2, (house, n) -> house.verdict(0, n)));
        Check.test("36: service: 0 to 3", () -> Refusal.range(canaries, 0, 3, (house, n) -> house.verdictByAll(n, 0)));
        Check.test("36: ring: 0 to 2", () -> Refusal.range(canaries, 0, 2, (house, n) -> house.verdictByAll(0, n)));
        Check.test("37: service: 0 to 3", () -> Refusal.range(canaries, 0, 3, (house, n) -> house.badPart(n, 0, true)));
        Check.test("37: ring: 0 to 2", () -> Refusal.range(canaries, 0, 2, (house, n) -> house.badPart(0, n, false)));
    }

    private static void measure() {
        Check.test("33: returns how many measures of that one the test has", () -> {
            ReleaseHouse house = withCanary();
            for (int i = 1; i <= 40; i++) {
                Check.same("of the candidate", house.measure(0, 0, true, i % 2 == 0, i), i);
            }
            Check.same("of the other one", house.measure(0, 0, false, true, 0), 1);
            Check.same("of the candidate again", house.measure(0, 0, true, true, 60000), 41);
            Check.same("of another test", withCanaries().measure(3, 0, true, true, 0), 1);
        });
        Check.test("33: as many of one as an object is used for", () -> {
            ReleaseHouse house = withCanary();
            for (int i = 1; i <= 480; i++) {
                Check.same("its number", house.measure(0, 0, true, i == 480, i), i);
            }
            isVerdict("no pair", house, 0);
            Check.same("bad", house.badPart(0, 0, true), 1.0f / 480);
        });
        Check.test("33: throws if there is no candidate there", () -> {
            Refusal.World lost = () -> {
                ReleaseHouse house = withCanary();
                house.stop(1);
                return house;
            };
            Refusal.badState("of the candidate", lost, house -> house.measure(0, 0, true, true, 1));
            Refusal.badState("of the stable one", lost, house -> house.measure(0, 0, false, true, 1));
        });
        Check.test("33: throws if there is no stable artefact there", () -> {
            Refusal.World first = () -> {
                ReleaseHouse house = new ReleaseHouse();
                house.release(Given.easy(house, 0), Given.program(house, Given.share(0, 5), Given.promote(1)));
                house.pass(2);
                return house;
            };
            Refusal.badState("of the candidate", first, house -> house.measure(0, 0, true, true, 1));
            Refusal.badState("of the stable one", first, house -> house.measure(0, 0, false, true, 1));
            Refusal.badState("nor a candidate", first, house -> house.measure(0, 1, false, true, 1));
            Refusal.badState("neither", ReleaseHouse::new, house -> house.measure(0, 0, true, true, 1));
        });
        Check.test("33: throws if 600 measures were taken, in all tests together", CanaryEdgesTest::sixHundred);
        Check.test("33: of several exceptions it is the first one", () -> Refusal.badArgument("millis and no test",
                ReleaseHouse::new, house -> house.measure(0, 0, true, true, 60001)));
    }

    /** More calls than an object is promised to be used for: this limit can't be come to with fewer. */
    private static void sixHundred() {
        ReleaseHouse house = withCanaries();
        for (int i = 0; i < 600; i++) {
            Check.same("its number", house.measure(i % 4, 0, i % 8 < 4, false, 1), i / 8 + 1);
        }
        Check.badState("the 601st", () -> house.measure(0, 0, true, false, 1));
        house.stop(4);
        Check.badState("there is no such test", () -> house.measure(0, 0, true, false, 1));
        Check.badState("the tests that began anew count too", () -> house.measure(1, 0, true, false, 1));
        Check.badArgument("the argument goes first", () -> house.measure(1, 0, true, false, 60001));
    }

    private static void isNew(String what, ReleaseHouse house, boolean isTest) {
        Check.same(what + ", capital", house.capital(0, 0), 1.0);
        Check.same(what + ", verdict", house.verdict(0, 0), 0);
        Check.same(what + ", by all", house.verdictByAll(0, 0), 0);
        Check.same(what + ", bad of the candidate", house.badPart(0, 0, true), 0.0f);
        Check.same(what + ", bad of the stable one", house.badPart(0, 0, false), 0.0f);
        if (isTest) {
            Check.same(what + ", the first measure", house.measure(0, 0, true, false, 8), 1);
            Check.same(what + ", of the other one too", house.measure(0, 0, false, false, 2), 1);
            Check.same(what + ", it is good", house.badPart(0, 0, true), 0.0f);
            Check.same(what + ", the other one too", house.badPart(0, 0, false), 0.0f);
            Given.measures(house, 9, true, false, 8);
            Given.measures(house, 9, false, false, 2);
            isVerdict(what + ", slow by its own measures", house, 2);
        }
    }

    private static ReleaseHouse withBadCanary() {
        ReleaseHouse house = withCanary();
        Given.measures(house, 20, true, true, 0);
        Given.measures(house, 19, false, false, 0);
        Given.measures(house, 1, false, true, 0);
        Check.same("bad", house.verdict(0, 0), 2);
        return house;
    }

    private static void beginsAnew() {
        Check.test("33: begins anew when the candidate becomes none", () -> {
            ReleaseHouse house = withBadCanary();
            house.stop(1);
            isNew("none", house, false);
            house.release(1, Given.program(house, Given.share(0, 5), Given.await(9)));
            house.pass(1);
            isNew("the same one again", house, true);
        });
        Check.test("33: begins anew when the candidate becomes another one", () -> {
            ReleaseHouse house = withBadCanary();
            house.release(Given.hotfix(house, 0), Given.program(house, Given.share(0, 60), Given.await(9)));
            house.pass(1);
            Check.same("another one", house.candidate(0, 0), 2);
            isNew("another one", house, true);
        });
        Check.test("33: begins anew when the stable artefact becomes another one", () -> {
            ReleaseHouse house = withBadCanary();
            house.approve(1, 1);
            house.pass(3);
            Check.same("promoted", house.stable(0, 0), 1);
            isNew("promoted", house, false);
            house.release(Given.easy(house, 0), Given.program(house, Given.share(0, 5)));
            house.pass(1);
            isNew("the next candidate", house, true);
            Given.measures(house, 9, true, true, 0);
            Given.measures(house, 9, false, false, 60000);
            house.stop(1);
            Check.same("gone back, with the candidate", house.stable(0, 0) + house.candidate(0, 0), 2);
            isNew("gone back", house, true);
        });
        Check.test("33: another share is no other one", () -> {
            ReleaseHouse house = withBadCanary();
            double capital = house.capital(0, 0);
            house.pass(1);
            Check.same("share", house.share(0, 0), 60);
            Check.same("capital", house.capital(0, 0), capital);
            Check.same("verdict", house.verdict(0, 0), 2);
            Check.same("the next measure", house.measure(0, 0, true, true, 1), 21);
        });
        Check.test("33: what becomes another one elsewhere is no matter", () -> {
            ReleaseHouse house = withCanaries();
            Given.measures(house, 3, true, true, 1);
            house.stop(5);
            Check.same("of another service", house.measure(0, 0, true, true, 1), 4);
            ReleaseHouse other = withCanary();
            Given.measures(other, 3, true, true, 1);
            other.release(Given.easy(other, 0), Given.program(other, Given.share(1, 5), Given.promote(1)));
            other.pass(2);
            Check.same("of another ring", other.measure(0, 0, true, true, 1), 4);
        });
    }

    private static void pairs() {
        Check.test("34: the first measure is paired with the first one, the second with the second", () -> {
            ReleaseHouse house = withCanary();
            house.measure(0, 0, true, true, 1);
            house.measure(0, 0, true, false, 1);
            Check.same("no pair", house.capital(0, 0), 1.0);
            house.measure(0, 0, false, false, 1);
            Check.same("the first pair", house.capital(0, 0), 1.5);
            house.measure(0, 0, false, true, 1);
            Check.same("the second pair", house.capital(0, 0), 0.75);
            house.measure(0, 0, false, false, 1);
            house.measure(0, 0, false, true, 1);
            Check.same("the stable one waits", house.capital(0, 0), 0.75);
            house.measure(0, 0, true, true, 1);
            Check.same("the third pair", house.capital(0, 0), 1.125);
            house.measure(0, 0, true, true, 1);
            Check.same("the fourth pair, both bad", house.capital(0, 0), 1.125);
        });
        Check.test("34: in this order", () -> {
            ReleaseHouse house = withCanary();
            Given.measures(house, 9, true, true, 1);
            Given.measures(house, 1, true, false, 1);
            Given.measures(house, 9, false, false, 1);
            double grown = house.capital(0, 0);
            Given.measures(house, 1, false, true, 1);
            Check.same("it stays, as it was 20 ahead of the last pair", house.capital(0, 0), grown);
            ReleaseHouse other = withCanary();
            Given.measures(other, 1, true, false, 1);
            Given.measures(other, 9, true, true, 1);
            Given.measures(other, 1, false, true, 1);
            Given.measures(other, 9, false, false, 1);
            Check.same("halved ahead of all others", other.capital(0, 0), grown * 0.75);
        });
    }

    private static void capital() {
        Check.test("34: is 1.0 at first", () -> {
            Check.same("nothing is there", new ReleaseHouse().capital(3, 2), 1.0);
            Check.same("a test", withCanary().capital(0, 0), 1.0);
        });
        Check.test("34: by 1.5, by 0.5, or not at all", () -> {
            for (int way = 0; way < 4; way++) {
                ReleaseHouse house = withCanary();
                house.measure(0, 0, true, way / 2 == 1, 1);
                house.measure(0, 0, false, way % 2 == 1, 1);
                Check.same("way " + way, house.capital(0, 0), way == 2 ? 1.5 : way == 1 ? 0.5 : 1.0);
            }
        });
        Check.test("34: as soon as it is 20.0 or more, it stays", () -> {
            ReleaseHouse house = withCanary();
            Given.measures(house, 7, true, true, 1);
            Given.measures(house, 7, false, false, 1);
            Check.same("17.1 is less", house.capital(0, 0), 17.0859375);
            Given.measures(house, 1, true, true, 1);
            Given.measures(house, 1, false, false, 1);
            Check.same("more than 20", house.capital(0, 0), 25.62890625);
            Given.measures(house, 3, true, true, 1);
            Given.measures(house, 3, false, false, 1);
            Check.same("does not grow", house.capital(0, 0), 25.62890625);
            Given.measures(house, 90, true, false, 1);
            Given.measures(house, 90, false, true, 1);
            Check.same("does not shrink", house.capital(0, 0), 25.62890625);
            Check.same("bad", house.verdict(0, 0), 2);
            Check.same("by all", house.verdictByAll(0, 0), 2);
        });
        Check.test("34: just below 20 it does not stay", () -> {
            for (int[] row : new int[][] {{15, 33}, {1, 9}}) {
                ReleaseHouse house = withPairs(row[0], row[1]);
                double due = of(row[0], row[1]);
                Check.yes("near to it from below: " + due, due > 19 && due < 20);
                Check.same("capital", house.capital(0, 0), due);
                Check.same("not bad", house.verdict(0, 0), row[0] + row[1] < 20 ? 0 : 1);
                Check.same("by all", house.verdictByAll(0, 0), house.verdict(0, 0));
                Given.measures(house, 1, true, false, 1);
                Given.measures(house, 1, false, true, 1);
                Check.same("halved", house.capital(0, 0), due / 2);
            }
        });
        Check.test("34: just above 20 it stays", () -> {
            ReleaseHouse house = withPairs(22, 45);
            double due = of(22, 45);
            Check.yes("near to it from above: " + due, due > 20 && due < 20.1);
            Check.same("capital", house.capital(0, 0), due);
            Check.same("bad", house.verdict(0, 0), 2);
            Check.same("by all", house.verdictByAll(0, 0), 2);
            Given.measures(house, 1, true, false, 1);
            Given.measures(house, 1, false, true, 1);
            Check.same("stays", house.capital(0, 0), due);
        });
        Check.test("34: a double, however small", () -> {
            ReleaseHouse house = withPairs(240, 0);
            Check.same("halved 240 times", house.capital(0, 0), of(240, 0));
            Check.yes("above 0", house.capital(0, 0) > 0);
        });
    }

    /** So many pairs that halve the capital, then so many that make it grow. */
    private static ReleaseHouse withPairs(int halved, int grown) {
        ReleaseHouse house = withCanary();
        Given.measures(house, halved, true, false, 1);
        Given.measures(house, halved, false, true, 1);
        Given.measures(house, grown, true, true, 1);
        Given.measures(house, grown, false, false, 1);
        return house;
    }

    private static double of(int halved, int grown) {
        double due = 1.0;
        for (int i = 0; i < halved + grown; i++) {
            due *= i < halved ? 0.5 : 1.5;
        }
        return due;
    }

    private static void isVerdict(String what, ReleaseHouse house, int due) {
        Check.same(what, house.verdict(0, 0), due);
        Check.same(what + ", by all", house.verdictByAll(0, 0), due);
    }

    /** A test with so many measures of each, all good and of the times given. */
    private static ReleaseHouse measured(int ofCandidate, int millis, int ofStable, int others) {
        ReleaseHouse house = withCanary();
        Given.measures(house, ofCandidate, true, false, millis);
        Given.measures(house, ofStable, false, false, others);
        return house;
    }

    private static void verdict() {
        Check.test("35: good, if there are 20 pairs or more; else open", () -> {
            isVerdict("nothing is there", new ReleaseHouse(), 0);
            isVerdict("no measure", withCanary(), 0);
            isVerdict("19 of both", measured(19, 1, 19, 1), 0);
            isVerdict("20 of the candidate alone", measured(200, 1, 19, 1), 0);
            isVerdict("20 of the stable one alone", measured(19, 1, 200, 1), 0);
            isVerdict("20 of both", measured(20, 1, 20, 1), 1);
            isVerdict("21 and 20", measured(21, 1, 20, 1), 1);
        });
        Check.test("35: bad, if the capital is 20.0 or more", () -> {
            isVerdict("7 pairs", withPairs(0, 7), 0);
            isVerdict("8 pairs", withPairs(0, 8), 2);
            isVerdict("20 pairs, bad goes ahead of good", withPairs(0, 20), 2);
        });
        Check.test("35: bad, if both have 10 measures or more", () -> {
            isVerdict("9 of both", measured(9, 60000, 9, 0), 0);
            isVerdict("9 of the candidate", measured(9, 60000, 10, 0), 0);
            isVerdict("9 of the stable one", measured(10, 60000, 9, 0), 0);
            isVerdict("9 and very many", measured(9, 60000, 200, 0), 0);
            isVerdict("10 of both", measured(10, 60000, 10, 0), 2);
            isVerdict("20 of both, bad goes ahead of good", measured(20, 60000, 20, 0), 2);
        });
        Check.test("36: the same from all measures since the test began", () -> {
            ReleaseHouse house = withBadCanary();
            isVerdict("bad", house, 2);
            house.stop(1);
            isVerdict("anew", house, 0);
        });
    }

    private static void slowness() {
        Check.test("35: the slow bucket of the candidate is more than 1 above that of the stable one", () -> {
            isVerdict("the same", measured(10, 3, 10, 2), 0);
            isVerdict("1 above", measured(10, 4, 10, 2), 0);
            isVerdict("1 above, at the ends", measured(10, 7, 10, 2), 0);
            isVerdict("2 above", measured(10, 8, 10, 3), 2);
            isVerdict("far below", measured(20, 0, 20, 60000), 1);
        });
        Check.test("35: a bad measure is as slow as a good one", () -> {
            ReleaseHouse house = measured(10, 4, 0, 0);
            Given.measures(house, 10, false, true, 2);
            isVerdict("of the stable one, 1 above", house, 0);
            ReleaseHouse other = measured(0, 0, 10, 2);
            Given.measures(other, 5, true, true, 8);
            Given.measures(other, 5, true, false, 8);
            isVerdict("of the candidate, 2 above", other, 2);
        });
        Check.test("35: bucket 0 with 0 milliseconds, 1 with 1, 2 with 2 or 3, 3 with 4 to 7, and so on", () -> {
            int[] last = {0, 1, 3, 7, 15, 31, 63, 127, 255, 511, 1023, 2047, 4095, 8191, 16383, 32767, 60000};
            for (int bucket = 2; bucket < last.length; bucket++) {
                int first = last[bucket - 1] + 1;
                isVerdict(first + " is two above " + last[bucket - 2], measured(10, first, 10, last[bucket - 2]), 2);
                isVerdict(last[bucket - 1] + " is one above", measured(10, last[bucket - 1], 10, last[bucket - 2]), 0);
                isVerdict(last[bucket] + " is one above " + last[bucket - 1],
                        measured(10, last[bucket], 10, last[bucket - 1]), 0);
            }
        });
        Check.test("35: at least 9 tenths of its measures", () -> {
            int[][] rows = {
                {9, 1, 0}, {8, 2, 2}, {10, 1, 0}, {10, 2, 2}, {18, 2, 0}, {17, 2, 2}, {17, 3, 2}, {27, 3, 0},
            };
            for (int[] row : rows) {
                ReleaseHouse house = measured(row[0], 1, 10, 1);
                Given.measures(house, row[1], true, false, 60000);
                isVerdict(row[0] + " of the candidate are fast, " + row[1] + " slow", house, row[2]);
                ReleaseHouse other = measured(10, 60000, row[0], 1);
                Given.measures(other, row[1], false, false, 60000);
                isVerdict(row[0] + " of the stable one are fast, " + row[1] + " slow", other, row[2] == 2 ? 0 : 2);
            }
        });
        Check.test("35: the lowest one with which, and those below, there are 9 tenths", () -> {
            ReleaseHouse house = measured(5, 1, 10, 1);
            Given.measures(house, 4, true, false, 2);
            Given.measures(house, 1, true, false, 60000);
            isVerdict("those below count with it", house, 0);
            ReleaseHouse other = measured(5, 1, 10, 1);
            Given.measures(other, 3, true, false, 2);
            Given.measures(other, 2, true, false, 4);
            isVerdict("8 with those below, 10 in the next one", other, 2);
        });
    }

    private static void badPart() {
        Check.test("37: 0 if there are none", () -> {
            Check.same("nothing is there", new ReleaseHouse().badPart(0, 0, true), 0.0f);
            ReleaseHouse house = withCanary();
            house.measure(0, 0, true, true, 1);
            Check.same("of the stable one", house.badPart(0, 0, false), 0.0f);
            Check.same("of the candidate", house.badPart(0, 0, true), 1.0f);
        });
        Check.test("37: how many are, as a float, divided by how many there are", () -> {
            int[][] rows = {
                {0, 1}, {1, 1}, {1, 3}, {2, 3}, {1, 7}, {3, 7}, {5, 6}, {9, 11}, {10, 30}, {1, 49}, {48, 49},
            };
            for (int[] row : rows) {
                for (int way = 0; way < 2; way++) {
                    ReleaseHouse house = withCanary();
                    Given.measures(house, row[0], way == 0, true, 1);
                    Given.measures(house, row[1] - row[0], way == 0, false, 1);
                    Check.same(row[0] + " of " + row[1], house.badPart(0, 0, way == 0), (float) row[0] / row[1]);
                    Check.same("of the other one", house.badPart(0, 0, way == 1), 0.0f);
                }
            }
        });
    }
}
