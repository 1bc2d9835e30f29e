/** Promises 33 to 37: canaries; and what JUDGE makes of them (promise 15). */
public final class CanaryTest {
    public static void main(String[] args) {
        outOfRange();
        measure();
        beginsAnew();
        capital();
        capitalStays();
        capitalNear20();
        pairsByOrder();
        verdictByPairs();
        verdictBySlowness();
        buckets();
        badPart();
        judge();
        judgeElsewhere();
        Check.finish();
    }

    /** A stable artefact 0 and a candidate 1 of the service 0 in the ring 0. */
    private static ReleaseHouse withCanary() {
        ReleaseHouse house = new ReleaseHouse();
        Given.stable(house, 0, Given.program(house, Given.promote(0)));
        house.release(Given.easy(house, 0),
                Given.program(house, Given.share(0, 50), Given.judge(0), Given.share(0, 60), Given.await(99)));
        house.pass(1);
        return house;
    }

    private static void outOfRange() {
        ReleaseHouse house = withCanary();
        int[][] wrong = {{-1, 0}, {4, 0}, {0, -1}, {0, 3}};
        for (int[] w : wrong) {
            Check.badArgument("33: measure", () -> house.measure(w[0], w[1], true, true, 0));
            Check.badArgument("34: capital", () -> house.capital(w[0], w[1]));
            Check.badArgument("35: verdict", () -> house.verdict(w[0], w[1]));
            Check.badArgument("36: verdictByAll", () -> house.verdictByAll(w[0], w[1]));
            Check.badArgument("37: badPart", () -> house.badPart(w[0], w[1], true));
        }
        Check.badArgument("33: millis below 0", () -> house.measure(0, 0, true, true, -1));
        Check.badArgument("33: millis above 60000", () -> house.measure(0, 0, true, true, 60001));
        Check.badArgument("33: the argument goes first", () -> house.measure(0, 1, true, true, -1));
        Check.same("33: the least and the most", house.measure(0, 0, true, true, 0), 1);
        Check.same("33: the second one", house.measure(0, 0, true, true, 60000), 2);
    }

    private static void measure() {
        ReleaseHouse house = withCanary();
        Check.same("33: of the candidate", house.measure(0, 0, true, false, 1), 1);
        Check.same("33: of the stable one", house.measure(0, 0, false, false, 1), 1);
        Check.same("33: of the candidate again", house.measure(0, 0, true, true, 1), 2);
        Check.badState("33: neither is in the ring", () -> house.measure(0, 1, true, false, 1));
        house.stop(1);
        Check.badState("33: no candidate", () -> house.measure(0, 0, false, false, 1));
        house.release(Given.easy(house, 1), Given.program(house, Given.share(2, 50)));
        house.pass(1);
        Check.badState("33: no stable one", () -> house.measure(1, 2, true, false, 1));
    }

    private static void beginsAnew() {
        ReleaseHouse house = withCanary();
        Given.measures(house, 20, true, false, 1);
        Given.measures(house, 20, false, true, 40);
        house.pass(2);
        Check.same("33: another share is the same test", house.measure(0, 0, true, false, 1), 21);
        house.stop(1);
        Check.same("34: no candidate, anew", house.capital(0, 0), 1.0);
        Check.same("35: open again", house.verdict(0, 0), 0);
        Check.same("36: open again", house.verdictByAll(0, 0), 0);
        house.release(1, Given.program(house, Given.share(0, 10), Given.await(99)));
        house.pass(1);
        Check.same("33: the same candidate, anew", house.measure(0, 0, false, true, 1), 1);
        Check.same("37: anew", house.badPart(0, 0, false), 1.0f);
        Given.measures(house, 9, false, true, 1);
        Given.measures(house, 10, true, false, 4);
        Check.same("35: the slow ones are gone", house.verdict(0, 0), 2);
        house.release(Given.hotfix(house, 0), Given.program(house, Given.share(0, 10), Given.await(99)));
        house.pass(1);
        Check.same("33: another candidate, anew", house.measure(0, 0, false, true, 1), 1);
        ReleaseHouse other = new ReleaseHouse();
        int promoting = Given.program(other, Given.promote(0), Given.await(99));
        other.release(Given.easy(other, 0), promoting);
        other.pass(1);
        int bad = other.release(Given.easy(other, 0), promoting);
        other.pass(1);
        other.release(Given.easy(other, 0), Given.program(other, Given.share(0, 10), Given.await(99)));
        other.pass(1);
        Given.measures(other, 3, true, true, 1);
        other.stop(bad);
        Check.same("33: another stable one, anew", other.measure(0, 0, true, true, 1), 1);
    }

    private static void capital() {
        ReleaseHouse house = withCanary();
        house.measure(0, 0, true, true, 1);
        Check.same("34: no pair", house.capital(0, 0), 1.0);
        house.measure(0, 0, false, false, 1);
        Check.same("34: the candidate is bad", house.capital(0, 0), 1.5);
        house.measure(0, 0, false, true, 1);
        house.measure(0, 0, true, true, 1);
        Check.same("34: both are", house.capital(0, 0), 1.5);
        house.measure(0, 0, false, false, 1);
        house.measure(0, 0, true, false, 1);
        Check.same("34: none is", house.capital(0, 0), 1.5);
        house.measure(0, 0, true, false, 1);
        house.measure(0, 0, false, true, 1);
        Check.same("34: the other one is", house.capital(0, 0), 0.75);
        Check.same("34: of another ring", house.capital(0, 1), 1.0);
        Check.same("34: of another service", house.capital(1, 0), 1.0);
    }

    private static void capitalStays() {
        ReleaseHouse house = withCanary();
        double due = 1.0;
        for (int i = 0; i < 7; i++) {
            house.measure(0, 0, true, true, 1);
            house.measure(0, 0, false, false, 1);
            due *= 1.5;
            Check.same("34: grows", house.capital(0, 0), due);
            Check.same("35: open below 20", house.verdict(0, 0), 0);
        }
        house.measure(0, 0, true, true, 1);
        house.measure(0, 0, false, false, 1);
        due *= 1.5;
        Check.same("34: above 20", house.capital(0, 0), due);
        Check.same("35: bad from there on", house.verdict(0, 0), 2);
        Given.measures(house, 40, false, true, 1);
        Given.measures(house, 40, true, false, 1);
        Check.same("34: stays", house.capital(0, 0), due);
        Check.same("35: bad still", house.verdict(0, 0), 2);
        Check.same("36: by all too", house.verdictByAll(0, 0), 2);
    }

    /** 1.5 to the 9th by 0.5 is 19.2, 1.5 to the 16th by 0.5 to the 5th is 20.5: none is nearer to 20. */
    private static void capitalNear20() {
        int[][] halvings = {{1, 9, 0}, {5, 16, 2}};
        for (int[] h : halvings) {
            ReleaseHouse house = withCanary();
            Given.measures(house, h[0], true, false, 1);
            Given.measures(house, h[0], false, true, 1);
            Given.measures(house, h[1], true, true, 1);
            Given.measures(house, h[1], false, false, 1);
            double due = 1.0;
            for (int i = 0; i < h[0] + h[1]; i++) {
                due *= i < h[0] ? 0.5 : 1.5;
            }
            Check.same("34: near 20", house.capital(0, 0), due);
            Check.same("35: bad from 20 on", house.verdict(0, 0), h[2]);
            Check.same("36: the same", house.verdictByAll(0, 0), h[2]);
            house.measure(0, 0, true, false, 1);
            house.measure(0, 0, false, true, 1);
            Check.same("34: stays from 20 on", house.capital(0, 0), h[2] == 2 ? due : due / 2);
        }
    }

    private static void pairsByOrder() {
        ReleaseHouse house = withCanary();
        boolean[] ofCandidate = {true, false, true, true, false, true, true};
        for (boolean isBad : ofCandidate) {
            house.measure(0, 0, true, isBad, 1);
        }
        boolean[] ofStable = {true, true, false, false, false, true, false};
        double[] due = {1.0, 0.5, 0.75, 1.125, 1.125, 1.125, 1.6875};
        for (int i = 0; i < ofStable.length; i++) {
            house.measure(0, 0, false, ofStable[i], 1);
            Check.same("34: behind the pair " + i, house.capital(0, 0), due[i]);
        }
    }

    private static void verdictByPairs() {
        ReleaseHouse house = withCanary();
        Given.measures(house, 30, true, false, 1);
        Given.measures(house, 19, false, false, 1);
        Check.same("35: 19 pairs", house.verdict(0, 0), 0);
        Check.same("36: 19 pairs", house.verdictByAll(0, 0), 0);
        house.measure(0, 0, false, false, 1);
        Check.same("35: 20 pairs", house.verdict(0, 0), 1);
        Check.same("36: 20 pairs", house.verdictByAll(0, 0), 1);
    }

    private static void verdictBySlowness() {
        ReleaseHouse house = withCanary();
        Given.measures(house, 9, true, false, 8);
        Given.measures(house, 10, false, false, 2);
        Check.same("35: 9 of the candidate", house.verdict(0, 0), 0);
        house.measure(0, 0, true, false, 8);
        Check.same("35: 10 of both, two buckets above", house.verdict(0, 0), 2);
        Check.same("36: the same", house.verdictByAll(0, 0), 2);
        house.measure(0, 0, false, false, 4);
        Check.same("35: 10 of 11 are below", house.verdict(0, 0), 2);
        house.measure(0, 0, false, false, 4);
        Check.same("35: 10 of 12 are not 9 tenths, one bucket above", house.verdict(0, 0), 0);
        Check.same("36: the same", house.verdictByAll(0, 0), 0);
        ReleaseHouse other = withCanary();
        Given.measures(other, 10, true, false, 4);
        Given.measures(other, 10, false, false, 2);
        Check.same("35: one bucket above", other.verdict(0, 0), 0);
        other.measure(0, 0, true, false, 60000);
        Check.same("35: 10 of 11", other.verdict(0, 0), 0);
        other.measure(0, 0, true, false, 60000);
        Check.same("35: 10 of 12", other.verdict(0, 0), 2);
        ReleaseHouse just = withCanary();
        Given.measures(just, 9, true, false, 2);
        just.measure(0, 0, true, false, 60000);
        Given.measures(just, 10, false, false, 2);
        Check.same("35: 9 of 10 are 9 tenths", just.verdict(0, 0), 0);
        Check.same("36: the same", just.verdictByAll(0, 0), 0);
        ReleaseHouse bad = withCanary();
        Given.measures(bad, 10, true, false, 4);
        Given.measures(bad, 10, false, true, 2);
        Check.same("35: bad ones are as slow as good ones", bad.verdict(0, 0), 0);
        Check.same("36: the same", bad.verdictByAll(0, 0), 0);
        ReleaseHouse faster = withCanary();
        Given.measures(faster, 20, true, false, 0);
        Given.measures(faster, 20, false, false, 60000);
        Check.same("35: a faster one is good", faster.verdict(0, 0), 1);
    }

    /** Each pair of times lies at the two ends of one bucket, two below the next pair but one. */
    private static void buckets() {
        int[] first = {0, 1, 2, 4, 8, 16, 32, 64, 128, 256, 512, 1024, 2048, 4096, 8192, 16384, 32768};
        int[] last = {0, 1, 3, 7, 15, 31, 63, 127, 255, 511, 1023, 2047, 4095, 8191, 16383, 32767, 60000};
        for (int i = 0; i + 2 < first.length; i++) {
            Check.same("35: two above, from " + last[i], verdictOf(first[i + 2], last[i]), 2);
            Check.same("35: one above, from " + first[i], verdictOf(last[i + 1], first[i]), 0);
        }
    }

    private static int verdictOf(int candidate, int stable) {
        ReleaseHouse house = withCanary();
        Given.measures(house, 10, true, false, candidate);
        Given.measures(house, 10, false, false, stable);
        Check.same("36: the same", house.verdictByAll(0, 0), house.verdict(0, 0));
        return house.verdict(0, 0);
    }

    private static void badPart() {
        ReleaseHouse house = withCanary();
        Check.same("37: none", house.badPart(0, 0, true), 0.0f);
        house.measure(0, 0, true, true, 1);
        Given.measures(house, 2, true, false, 1);
        Check.same("37: a third", house.badPart(0, 0, true), 1.0f / 3);
        Check.same("37: of the other one", house.badPart(0, 0, false), 0.0f);
        house.measure(0, 0, false, true, 1);
        Check.same("37: all", house.badPart(0, 0, false), 1.0f);
        Check.same("37: of another ring", house.badPart(0, 1, true), 0.0f);
        house.stop(1);
        Check.same("37: anew", house.badPart(0, 0, false), 0.0f);
    }

    private static void judge() {
        ReleaseHouse house = withCanary();
        Check.same("14: open", house.why(1), 9);
        Given.measures(house, 20, true, false, 1);
        Given.measures(house, 20, false, false, 1);
        Check.same("14: good", house.why(1), 0);
        Check.same("15: goes on", house.pass(1), 1);
        Check.same("13: at the next step", house.at(1), 2);
        ReleaseHouse other = withCanary();
        Given.measures(other, 8, true, true, 1);
        Given.measures(other, 8, false, false, 1);
        Check.same("14: bad", other.why(1), 0);
        Check.same("15: a stop counts", other.pass(1), 1);
        Check.same("12: stopped", other.state(1), 3);
        Check.same("13: where it was", other.at(1), 1);
        Check.same("21: the candidate is lost", other.candidate(0, 0), Given.NONE);
        Check.same("19: that is an effect", other.effects(), 3);
    }

    /** A JUDGE of one ring stops a release that has promoted another ring, which goes back. */
    private static void judgeElsewhere() {
        ReleaseHouse house = new ReleaseHouse();
        Given.stable(house, 0, Given.program(house, Given.promote(0), Given.promote(1)));
        house.pass(1);
        int program = Given.program(house, Given.promote(1), Given.share(0, 50), Given.judge(0));
        house.release(Given.easy(house, 0), program);
        house.pass(2);
        Given.measures(house, 8, true, true, 1);
        Given.measures(house, 8, false, false, 1);
        int ahead = house.effects();
        house.pass(1);
        Check.same("15: the ring 1 goes back", house.stable(0, 1), 0);
        Check.same("15: the ring 0 has no candidate", house.candidate(0, 0), Given.NONE);
        Check.same("19: an effect for each ring", house.effects(), ahead + 2);
        house.release(Given.easy(house, 0), Given.program(house, Given.promote(0), Given.judge(0)));
        house.pass(1);
        Check.same("14: no candidate to be judged", house.why(2), 9);
    }
}
