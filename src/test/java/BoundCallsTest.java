/** Promises 1 to 10 and 20: each sentence that names a boundary case, at its two sides. */
public final class BoundCallsTest {
    private static final int MIN = Bounds.MIN;
    private static final int MAX = Bounds.MAX;
    private static final int[] NO_VOYAGES = {-1, 2, 6, MIN, MAX};
    /** Two voyages; in the first lots 1 (freight 2) and 3, and an act that is open. */
    private static final Run OPEN = Run.of("voyage 0 1000 3", "voyage 7 500 2", "lot 0 1 300 100 1 90 0",
            "lot 0 2 200 200 2 0 1", "act 0", "give 0 1 30", "spend 0 5 40");
    private static final Run UNDER_WAY = OPEN.then("move 0", "act 0", "give 0 3 20", "spend 0 6 60");
    private static final Run ENDED = UNDER_WAY.then("move 0", "move 0", "move 0");
    private static final Run LOST = UNDER_WAY.then("lost 0");

    private final Bounds bounds = new Bounds("BoundCallsTest");

    public static void main(String[] args) {
        BoundCallsTest test = new BoundCallsTest();
        test.promise1NoVoyages();
        test.promise2WorthOfAShip();
        test.promise2PortsAndOwners();
        test.promise2SixCame();
        test.promise3NoSuchVoyage();
        test.promise3EndedOrUnderWay();
        test.promise3NoSuchOwner();
        test.promise3WorthOfALot();
        test.promise3Told();
        test.promise3Port();
        test.promise3Freight();
        test.promise3Terms();
        test.promise3FortyLots();
        test.promise3FortyLotsWithoutFreight();
        test.promise3LotsThatCameAndWent();
        test.promise4PortsLeftAndComeTo();
        test.promise4NoSuchVoyageOrEnded();
        test.promise5NoSuchVoyageOrEnded();
        test.promise5TwelveActs();
        test.promise6NoSuchVoyageOrNoActOpen();
        test.promise6TheInterest();
        test.promise6TheAmount();
        test.promise6WithoutFreight();
        test.promise7NoSuchVoyageOwnerOrAct();
        test.promise7TheAmount();
        test.promise7WithWhatWasSpentAhead();
        test.promise7AmountsThatWrapAround();
        test.promise8NoSuchVoyageOrEnded();
        test.promise8AsOfGive();
        test.promise8WhatIsLeftThen();
        test.promise9NoSuchVoyageEndedOrLies();
        test.promise10NoSuchVoyageOrNone();
        test.promise10TheLatestOfEachKind();
        test.promise10OfOneVoyageAlone();
        test.promise10AllAndAgain();
        test.promise10NoVoyageIsTakenBack();
        test.promise20Count();
        test.bounds.end();
    }

    private void promise1NoVoyages() {
        bounds.sentence("promise 1: No VOYAGES");
        Run none = Run.of("count");
        bounds.asks(none, "count = 0");
        for (String v : new String[] {"0", "1", "-1", "5", "6", "" + MIN, "" + MAX}) {
            bounds.refused(none, "lot " + v + " 0 1 1 1 0 0", "move " + v, "act " + v, "give " + v + " 0 1",
                    "spend " + v + " 0 1", "lose " + v + " 0 1", "lost " + v, "back " + v, "told " + v + " 0",
                    "interest " + v + " 0 0", "share " + v + " 0 0 0", "sum " + v + " 0 0", "gets " + v + " 0 0",
                    "without " + v + " 0 0", "balance " + v + " 0", "payments " + v, "payment " + v + " 0 0");
        }
    }

    private void promise2WorthOfAShip() {
        bounds.sentence("promise 2: WORTH isn't 1 .. 1000000");
        bounds.asks(bounds.allowed(OPEN, "voyage 3 1 2", 2), "interest 2 0 1 = 1", "interest 2 0 2 = 1");
        bounds.asks(bounds.allowed(OPEN, "voyage 3 1000000 2", 2), "interest 2 0 1 = 1000000");
        bounds.refused(OPEN, "voyage 3 0 2", "voyage 3 -1 2", "voyage 3 1000001 2", "voyage 3 " + MIN + " 2",
                "voyage 3 " + MAX + " 2");
    }

    private void promise2PortsAndOwners() {
        bounds.sentence("promise 2: no such owner, PORTS not 2 .. 10");
        bounds.allowed(OPEN, "voyage 0 9 2", 2);
        bounds.allowed(OPEN, "voyage 29 9 10", 2);
        bounds.refused(OPEN, "voyage -1 9 2", "voyage 30 9 2", "voyage " + MIN + " 9 2", "voyage " + MAX + " 9 2");
        bounds.refused(OPEN, "voyage 0 9 1", "voyage 0 9 11", "voyage 0 9 0", "voyage 0 9 -2", "voyage 0 9 " + MIN,
                "voyage 0 9 " + MAX);
    }

    private void promise2SixCame() {
        bounds.sentence("promise 2: 6 came");
        Run run = Run.of("count");
        for (int v = 0; v < 6; v++) {
            run = bounds.allowed(run, "voyage 0 9 2", v);
        }
        bounds.refused(run, "voyage 0 9 2");
        bounds.refused(run.then("back 5"), "voyage 0 9 2");
        bounds.refused(run.then("move 5", "move 5"), "voyage 0 9 2");
        bounds.refused(run.then("move 0", "lost 0"), "voyage 0 9 2");
        Run refusedAhead = Run.of().times(10, "voyage 30 9 2").times(5, "voyage 0 9 2");
        bounds.refused(bounds.allowed(refusedAhead, "voyage 0 9 2", 5), "voyage 0 9 2");
        bounds.allowed(run, "move 5", 0);
    }

    private void promise3NoSuchVoyage() {
        bounds.sentence("promise 3: there is no such VOYAGE");
        bounds.allowed(OPEN, "lot 0 4 9 9 2 3 0", 4);
        bounds.allowed(OPEN, "lot 1 4 9 9 1 3 0", 1);
        bounds.refusedFor(OPEN, "lot ? 4 9 9 1 3 0", NO_VOYAGES);
    }

    private void promise3EndedOrUnderWay() {
        bounds.sentence("promise 3: it is ENDED or UNDER WAY");
        bounds.refused(UNDER_WAY, "lot 0 4 9 9 1 3 0", "lot 0 4 9 9 2 3 0");
        bounds.allowed(UNDER_WAY.then("move 0"), "lot 0 4 9 9 2 3 0", 4);
        bounds.refused(UNDER_WAY.then("move 0", "move 0"), "lot 0 4 9 9 2 3 0");
        bounds.refused(ENDED, "lot 0 4 9 9 2 3 0", "lot 0 4 9 9 3 3 0");
        bounds.refused(LOST, "lot 0 4 9 9 1 3 0", "lot 0 4 9 9 2 3 0");
    }

    private void promise3NoSuchOwner() {
        bounds.sentence("promise 3: there is no such owner");
        bounds.asks(bounds.allowed(OPEN, "lot 0 0 9 9 1 3 0", 4), "interest 0 4 0 = 0");
        bounds.asks(bounds.allowed(OPEN, "lot 0 29 9 9 1 3 0", 4), "interest 0 4 0 = 29", "interest 0 5 0 = 0");
        bounds.refused(OPEN, "lot 0 -1 9 9 1 3 0", "lot 0 30 9 9 1 3 0", "lot 0 " + MIN + " 9 9 1 3 0",
                "lot 0 " + MAX + " 9 9 1 3 0");
    }

    private void promise3WorthOfALot() {
        bounds.sentence("promise 3: WORTH isn't 1 .. 1000000");
        bounds.asks(bounds.allowed(OPEN, "lot 0 4 1 1 1 3 0", 4), "interest 0 4 1 = 1", "interest 0 4 2 = 1");
        bounds.asks(bounds.allowed(OPEN, "lot 0 4 1000000 1 1 3 0", 4), "interest 0 4 1 = 1000000");
        bounds.refused(OPEN, "lot 0 4 0 0 1 3 0", "lot 0 4 0 1 1 3 0", "lot 0 4 -1 -1 1 3 0", "lot 0 4 1000001 1 1 3 0",
                "lot 0 4 1000001 1000001 1 3 0", "lot 0 4 " + MIN + " 1 1 3 0", "lot 0 4 " + MAX + " 1 1 3 0");
    }

    private void promise3Told() {
        bounds.sentence("promise 3: TOLD not 1 .. WORTH");
        bounds.asks(bounds.allowed(OPEN, "lot 0 4 9 1 1 3 0", 4), "interest 0 4 7 = 1");
        bounds.asks(bounds.allowed(OPEN, "lot 0 4 9 9 1 3 0", 4), "interest 0 4 7 = 9");
        bounds.refused(OPEN, "lot 0 4 9 0 1 3 0", "lot 0 4 9 -1 1 3 0", "lot 0 4 9 10 1 3 0",
                "lot 0 4 9 " + MIN + " 1 3 0", "lot 0 4 9 " + MAX + " 1 3 0");
    }

    private void promise3Port() {
        bounds.sentence("promise 3: the PORT isn't behind the one where it LIES");
        bounds.asks(bounds.allowed(OPEN, "lot 0 4 9 9 1 3 0", 4), "interest 0 4 4 = 1");
        bounds.asks(bounds.allowed(OPEN, "lot 0 4 9 9 2 3 0", 4), "interest 0 4 4 = 2");
        bounds.refused(OPEN, "lot 0 4 9 9 0 3 0", "lot 0 4 9 9 -1 3 0", "lot 0 4 9 9 3 3 0",
                "lot 0 4 9 9 " + MIN + " 3 0", "lot 0 4 9 9 " + MAX + " 3 0");
        Run second = UNDER_WAY.then("move 0");
        bounds.allowed(second, "lot 0 4 9 9 2 3 0", 4);
        bounds.refused(second, "lot 0 4 9 9 0 3 0", "lot 0 4 9 9 1 3 0", "lot 0 4 9 9 3 3 0");
        bounds.refused(OPEN, "lot 1 4 9 9 2 3 0");
    }

    private void promise3Freight() {
        bounds.sentence("promise 3: freight is not 0 .. 1000000");
        bounds.asks(bounds.allowed(OPEN, "lot 0 4 9 9 1 0 0", 4), "told 0 3 = 5");
        bounds.asks(bounds.allowed(OPEN, "lot 0 4 9 9 1 1 0", 4), "told 0 3 = 6", "interest 0 5 1 = 1");
        bounds.asks(bounds.allowed(OPEN, "lot 0 4 9 9 1 1000000 0", 4), "told 0 3 = 6", "interest 0 5 1 = 1000000");
        bounds.refused(OPEN, "lot 0 4 9 9 1 -1 0", "lot 0 4 9 9 1 1000001 0", "lot 0 4 9 9 1 " + MIN + " 0",
                "lot 0 4 9 9 1 " + MAX + " 0");
    }

    private void promise3Terms() {
        bounds.sentence("promise 3: there are no such TERMS");
        bounds.asks(bounds.allowed(OPEN, "lot 0 4 9 9 1 3 0", 4), "interest 0 4 6 = 0");
        bounds.asks(bounds.allowed(OPEN, "lot 0 4 9 9 1 3 2", 4), "interest 0 4 6 = 2");
        bounds.refused(OPEN, "lot 0 4 9 9 1 3 -1", "lot 0 4 9 9 1 3 3", "lot 0 4 9 9 1 3 " + MIN,
                "lot 0 4 9 9 1 3 " + MAX);
    }

    private void promise3FortyLots() {
        bounds.sentence("promise 3: the VOYAGE has 40 LOTS (with freight)");
        Run run = Run.of("voyage 0 1000 3", "voyage 1 1000 2").times(39, "lot 0 1 9 9 1 5 0");
        Run full = bounds.allowed(run, "lot 0 1 9 9 1 5 0", 79);
        bounds.asks(full, "told 0 3 = 81", "interest 0 80 5 = 79", "interest 0 81 0 = -1");
        bounds.refused(full, "lot 0 1 9 9 1 5 0", "lot 0 1 9 9 1 0 0");
        bounds.allowed(full, "lot 1 1 9 9 1 5 0", 1);
        Run given = full.then("act 0", "give 0 79 9");
        bounds.asks(given, "share 0 0 79 1 = 9", "share 0 0 80 1 = 5", "sum 0 0 1 = 14");
        bounds.alike(full, given.then("back 0", "back 0"));
    }

    private void promise3FortyLotsWithoutFreight() {
        bounds.sentence("promise 3: the VOYAGE has 40 LOTS (without freight)");
        Run run = Run.of("voyage 0 1000 3").times(39, "lot 0 1 9 9 1 0 0");
        Run full = bounds.allowed(run, "lot 0 1 9 9 1 0 0", 40);
        bounds.asks(full, "told 0 3 = 41");
        bounds.refused(full, "lot 0 1 9 9 1 0 0", "lot 0 1 9 9 1 5 0");
        bounds.asks(bounds.allowed(run, "lot 0 1 9 9 1 5 0", 40), "told 0 3 = 42");
    }

    private void promise3LotsThatCameAndWent() {
        bounds.sentence("promise 3: the VOYAGE has 40 LOTS (delivered ones too; none that was taken back)");
        Run full = Run.of("voyage 0 1000 3").times(40, "lot 0 1 9 9 1 0 0");
        bounds.refused(full.then("move 0", "move 0"), "lot 0 1 9 9 2 0 0");
        bounds.refused(full.then("lose 0 40 9"), "lot 0 1 9 9 2 0 0");
        Run again = bounds.allowed(full.then("back 0"), "lot 0 1 9 9 2 7 0", 40);
        bounds.refused(again, "lot 0 1 9 9 2 7 0");
        Run refusedAhead = Run.of("voyage 0 1000 3").times(50, "lot 0 1 9 10 1 0 0").times(39, "lot 0 1 9 9 1 0 0");
        bounds.refused(bounds.allowed(refusedAhead, "lot 0 1 9 9 1 0 0", 40), "lot 0 1 9 9 1 0 0");
    }

    private void promise4PortsLeftAndComeTo() {
        bounds.sentence("promise 4: SAILING, if it LIES, else COMING to the next PORT");
        Run run = Run.of("voyage 0 9 3");
        long[] ports = {0, 1, 1, 2};
        for (long port : ports) {
            run = bounds.allowed(run, "move 0", port);
        }
        bounds.asks(run, "told 0 6 = 4");
        bounds.refused(run, "move 0");
    }

    private void promise4NoSuchVoyageOrEnded() {
        bounds.sentence("promise 4: there is no such VOYAGE, or it is ENDED");
        bounds.allowed(OPEN, "move 0", 0);
        bounds.allowed(OPEN, "move 1", 0);
        bounds.refusedFor(OPEN, "move ?", NO_VOYAGES);
        bounds.allowed(ENDED.then("back 0"), "move 0", 2);
        bounds.refused(ENDED, "move 0");
        bounds.allowed(LOST.then("back 0"), "move 0", 1);
        bounds.refused(LOST, "move 0");
        bounds.allowed(ENDED, "move 1", 0);
    }

    private void promise5NoSuchVoyageOrEnded() {
        bounds.sentence("promise 5: there is no such VOYAGE, it is ENDED");
        bounds.allowed(OPEN, "act 0", 1);
        bounds.allowed(OPEN, "act 1", 0);
        bounds.refusedFor(OPEN, "act ?", NO_VOYAGES);
        bounds.allowed(UNDER_WAY, "act 0", 2);
        bounds.refused(ENDED, "act 0");
        bounds.refused(LOST, "act 0");
        bounds.allowed(ENDED, "act 1", 0);
    }

    private void promise5TwelveActs() {
        bounds.sentence("promise 5: it had 12 ACTS");
        Run run = Run.of("voyage 0 9 3", "voyage 1 9 2", "lot 0 2 8 8 2 4 0").times(11, "act 0");
        Run full = bounds.allowed(run, "act 0", 11);
        bounds.asks(full, "told 0 4 = 12", "told 0 5 = 11", "share 0 11 0 0 = 1", "share 0 12 0 0 = -1");
        bounds.refused(full, "act 0");
        bounds.refused(full.then("move 0"), "act 0");
        bounds.refused(full.then("spend 0 3 1"), "act 0");
        bounds.allowed(full, "act 1", 0);
        Run again = bounds.allowed(full.then("back 0"), "act 0", 11);
        bounds.refused(again, "act 0");
        bounds.allowed(full, "give 0 1 8", 8);
        Run refusedAhead = Run.of("voyage 0 9 3").times(20, "act 1").times(11, "act 0");
        bounds.allowed(refusedAhead, "act 0", 11);
    }

    private void promise6NoSuchVoyageOrNoActOpen() {
        bounds.sentence("promise 6: there is no such VOYAGE, no ACT is OPEN");
        bounds.allowed(OPEN, "give 0 0 1", 1);
        bounds.refusedFor(OPEN, "give ? 0 1", NO_VOYAGES);
        bounds.refused(OPEN, "give 1 0 1");
        bounds.refused(OPEN.then("lose 0 0 1"), "give 0 0 1");
        bounds.refused(OPEN.times(3, "back 0"), "give 0 0 1");
        bounds.refused(ENDED, "give 0 0 1", "give 0 3 1");
        bounds.refused(LOST, "give 0 0 1", "give 0 3 1");
    }

    private void promise6TheInterest() {
        bounds.sentence("promise 6: the INTEREST is none, not ABOARD, a FREIGHT");
        bounds.allowed(OPEN, "give 0 0 1", 1);
        bounds.allowed(OPEN, "give 0 1 3", 1);
        bounds.allowed(OPEN, "give 0 3 1", 0);
        bounds.refused(OPEN, "give 0 -1 1", "give 0 2 1", "give 0 4 1", "give 0 81 1", "give 0 " + MIN + " 1",
                "give 0 " + MAX + " 1");
        Run there = UNDER_WAY.then("move 0", "act 0");
        bounds.refused(there, "give 0 1 1", "give 0 2 1");
        bounds.allowed(there, "give 0 3 1", 0);
        bounds.allowed(UNDER_WAY, "give 0 1 3", 1);
    }

    private void promise6TheAmount() {
        bounds.sentence("promise 6: n is not 1 .. what is LEFT");
        bounds.allowed(OPEN, "give 0 0 1", 1);
        bounds.asks(bounds.allowed(OPEN, "give 0 0 1000", 1000), "interest 0 0 2 = 0");
        bounds.asks(bounds.allowed(OPEN, "give 0 1 270", 90), "interest 0 1 2 = 0", "interest 0 2 2 = 0");
        bounds.refused(OPEN, "give 0 0 0", "give 0 0 -1", "give 0 0 1001", "give 0 1 0", "give 0 1 271",
                "give 0 1 300", "give 0 0 " + MIN, "give 0 0 " + MAX, "give 0 1 " + MIN, "give 0 1 " + MAX);
        bounds.refused(OPEN.then("give 0 0 1000", "give 0 1 270"), "give 0 0 1", "give 0 1 1", "give 0 0 0");
    }

    private void promise6WithoutFreight() {
        bounds.sentence("promise 6: what is MADE GOOD for it (without FREIGHT)");
        Run open = Run.of("voyage 0 9 2", "lot 0 1 10 10 1 1000000 0", "act 0");
        bounds.asks(bounds.allowed(open, "give 0 1 1", 1), "share 0 0 2 2 = 100000", "sum 0 0 1 = 100001");
        bounds.asks(bounds.allowed(open, "give 0 1 10", 10), "share 0 0 2 2 = 1000000", "sum 0 0 1 = 1000010");
        Run added = bounds.allowed(open.then("give 0 1 4"), "give 0 1 3", 3);
        bounds.asks(added, "share 0 0 1 2 = 7");
    }

    private void promise7NoSuchVoyageOwnerOrAct() {
        bounds.sentence("promise 7: there is no such VOYAGE or owner, no ACT is OPEN");
        bounds.allowed(OPEN, "spend 0 0 1", 1);
        bounds.allowed(OPEN, "spend 0 29 1", 1);
        bounds.refusedFor(OPEN, "spend ? 0 1", NO_VOYAGES);
        bounds.refused(OPEN, "spend 0 -1 1", "spend 0 30 1", "spend 0 " + MIN + " 1", "spend 0 " + MAX + " 1");
        bounds.refused(OPEN, "spend 1 0 1");
        bounds.refused(OPEN.then("move 0"), "spend 0 0 1");
        bounds.refused(OPEN.times(3, "back 0"), "spend 0 0 1");
        bounds.refused(ENDED, "spend 0 0 1");
        bounds.refused(LOST, "spend 0 0 1");
    }

    private void promise7TheAmount() {
        bounds.sentence("promise 7: n isn't 1 .. 1000000");
        bounds.asks(bounds.allowed(OPEN, "spend 0 3 1", 1), "sum 0 0 0 = 41");
        bounds.asks(bounds.allowed(OPEN, "spend 0 3 1000000", 1000000), "sum 0 0 0 = 1000040");
        bounds.refused(OPEN, "spend 0 3 0", "spend 0 3 -1", "spend 0 3 1000001", "spend 0 3 " + MIN,
                "spend 0 3 " + MAX);
    }

    private void promise7WithWhatWasSpentAhead() {
        bounds.sentence("promise 7: n isn't 1 .. 1000000 (also with what the owner spent in it ahead)");
        bounds.allowed(OPEN, "spend 0 5 999959", 999999);
        bounds.allowed(OPEN, "spend 0 5 999960", 1000000);
        bounds.refused(OPEN, "spend 0 5 999961", "spend 0 5 1000000", "spend 0 5 0", "spend 0 5 -1", "spend 0 5 -39");
        Run full = OPEN.then("spend 0 5 999960");
        bounds.refused(full, "spend 0 5 1", "spend 0 5 0", "spend 0 5 -1");
        bounds.allowed(full, "spend 0 6 1000000", 1000000);
        bounds.allowed(full.then("act 0"), "spend 0 5 1000000", 1000000);
        bounds.allowed(full.then("back 0"), "spend 0 5 999960", 1000000);
        bounds.allowed(full.then("back 0", "back 0"), "spend 0 5 1000000", 1000000);
    }

    private void promise7AmountsThatWrapAround() {
        bounds.sentence("promise 7: n isn't 1 .. 1000000 (sums past an int)");
        bounds.refused(OPEN, "spend 0 5 " + MAX, "spend 0 5 " + (MAX - 39), "spend 0 5 " + (MAX - 40),
                "spend 0 5 " + MIN, "spend 0 5 " + (MIN + 40));
    }

    private void promise8NoSuchVoyageOrEnded() {
        bounds.sentence("promise 8: there is no such VOYAGE, it is ENDED");
        bounds.allowed(OPEN, "lose 0 0 1", 999);
        bounds.allowed(OPEN, "lose 1 0 1", 499);
        bounds.refusedFor(OPEN, "lose ? 0 1", NO_VOYAGES);
        bounds.allowed(UNDER_WAY, "lose 0 0 1", 999);
        bounds.refused(ENDED, "lose 0 0 1", "lose 0 3 1");
        bounds.refused(LOST, "lose 0 0 1", "lose 0 3 1", "lose 0 0 0");
        bounds.allowed(ENDED, "lose 1 0 1", 499);
    }

    private void promise8AsOfGive() {
        bounds.sentence("promise 8: or as of give()");
        bounds.refused(OPEN, "lose 0 -1 1", "lose 0 2 1", "lose 0 4 1", "lose 0 81 1", "lose 0 " + MIN + " 1",
                "lose 0 " + MAX + " 1");
        bounds.refused(OPEN, "lose 0 0 0", "lose 0 0 -1", "lose 0 0 1001", "lose 0 1 271", "lose 0 1 300",
                "lose 0 0 " + MIN, "lose 0 0 " + MAX, "lose 0 1 " + MIN, "lose 0 1 " + MAX);
        Run there = UNDER_WAY.then("move 0");
        bounds.refused(there, "lose 0 1 1", "lose 0 2 1");
        bounds.allowed(there, "lose 0 3 1", 179);
        bounds.refused(OPEN.then("lose 0 0 1000", "lose 0 1 270"), "lose 0 0 1", "lose 0 1 1");
    }

    private void promise8WhatIsLeftThen() {
        bounds.sentence("promise 8: what is LEFT then");
        bounds.allowed(OPEN, "lose 0 0 999", 1);
        bounds.allowed(OPEN, "lose 0 0 1000", 0);
        bounds.asks(bounds.allowed(OPEN, "lose 0 1 269", 1), "interest 0 1 2 = 1");
        bounds.asks(bounds.allowed(OPEN, "lose 0 1 270", 0), "interest 0 1 2 = 0", "interest 0 2 2 = 0");
        bounds.allowed(OPEN.then("lose 0 0 999"), "lose 0 0 1", 0);
    }

    private void promise9NoSuchVoyageEndedOrLies() {
        bounds.sentence("promise 9: false if there is no such VOYAGE, it is ENDED, or LIES");
        bounds.refusedFor(UNDER_WAY, "lost ?", NO_VOYAGES);
        bounds.refused(OPEN, "lost 0", "lost 1");
        Run sailing = OPEN.then("move 0");
        bounds.asks(bounds.allowed(sailing, "lost 0", 1), "told 0 2 = 1", "told 0 6 = 7", "told 1 2 = 0");
        bounds.refused(sailing, "lost 1");
        bounds.refused(sailing.then("move 0"), "lost 0");
        bounds.allowed(sailing.then("move 0", "move 0"), "lost 0", 1);
        bounds.refused(ENDED, "lost 0");
        bounds.refused(LOST, "lost 0");
        bounds.refused(sailing.then("back 0"), "lost 0");
        bounds.allowed(LOST.then("back 0"), "lost 0", 1);
    }

    private void promise10NoSuchVoyageOrNone() {
        bounds.sentence("promise 10: false if there is no such VOYAGE, or it has none");
        bounds.refusedFor(OPEN, "back ?", NO_VOYAGES);
        bounds.refused(OPEN, "back 1");
        Run one = OPEN.times(4, "back 0");
        bounds.asks(one, "told 0 6 = 1");
        Run none = bounds.allowed(one, "back 0", 1);
        bounds.asks(none, "told 0 6 = 0", "told 0 3 = 1");
        bounds.refused(none, "back 0");
        bounds.refused(Run.of("voyage 0 9 2", "lot 0 1 5 6 1 0 0"), "back 0");
    }

    private void promise10TheLatestOfEachKind() {
        bounds.sentence("promise 10: the latest EVENT is taken back (as if it had never come)");
        String[] lying = {"lot 0 4 9 9 2 3 0", "lot 0 4 9 9 1 0 2", "move 0", "act 0", "give 0 0 1000", "give 0 1 7",
            "give 0 3 200", "spend 0 5 7", "spend 0 29 1000000", "lose 0 0 1000", "lose 0 1 7", "lose 0 1 270"};
        for (String call : lying) {
            bounds.allowed(OPEN.then(call), "back 0", 1);
            bounds.alike(OPEN, OPEN.then(call, "back 0"));
        }
        for (String call : new String[] {"move 0", "lost 0", "act 0", "give 0 1 11", "give 0 3 180", "lose 0 3 2"}) {
            bounds.alike(UNDER_WAY, UNDER_WAY.then(call, "back 0"));
        }
        Run last = UNDER_WAY.then("move 0", "move 0");
        bounds.alike(last, last.then("move 0", "back 0"));
        bounds.alike(last, last.then("lost 0", "back 0"));
        Run refused = OPEN.then("give 0 0 1001", "spend 0 5 1000000", "lost 0");
        bounds.alike(OPEN.then("back 0"), refused.then("back 0"));
    }

    private void promise10OfOneVoyageAlone() {
        bounds.sentence("promise 10: the latest EVENT of a VOYAGE (not of another one)");
        Run both = OPEN.then("lose 1 0 5", "lose 0 0 3");
        bounds.asks(both.then("back 1"), "interest 1 0 2 = 500", "interest 0 0 2 = 997", "told 0 6 = 6",
                "told 1 6 = 0");
        bounds.asks(both.then("back 0"), "interest 1 0 2 = 495", "interest 0 0 2 = 1000", "told 0 6 = 5",
                "told 1 6 = 1");
        bounds.refused(both.then("back 1"), "back 1");
    }

    private void promise10AllAndAgain() {
        bounds.sentence("promise 10: every EVENT is taken back, one by one");
        String[] calls = ("lot 0 1 30 20 1 9 0; act 0; give 0 1 7; spend 0 5 4; move 0; lose 0 1 3; act 0; give 0 0 2;"
                + " move 0; lot 0 2 40 40 2 8 1; act 0; give 0 3 15; spend 0 6 3; move 0; lost 0").split("; ?");
        Run[] steps = new Run[calls.length + 1];
        steps[0] = Run.of("voyage 0 100 3");
        for (int k = 0; k < calls.length; k++) {
            steps[k + 1] = steps[k].then(calls[k]);
        }
        for (int k = 0; k <= calls.length; k++) {
            bounds.asks(steps[k], "told 0 6 = " + k);
            bounds.alike(steps[k], steps[calls.length].times(calls.length - k, "back 0"));
        }
    }

    private void promise10NoVoyageIsTakenBack() {
        bounds.sentence("promise 10: EVENTS of a VOYAGE (its coming is none)");
        Run run = Run.of("voyage 0 9 2");
        bounds.refused(run, "back 0");
        bounds.asks(run.times(3, "back 0"), "count = 1", "told 0 6 = 0");
    }

    private void promise20Count() {
        bounds.sentence("promise 20: VOYAGES");
        Run run = Run.of("voyage 30 9 2");
        for (int n = 0; n < 6; n++) {
            bounds.asks(run, "count = " + n);
            run = run.then("voyage 0 9 2");
        }
        bounds.asks(run, "count = 6");
        bounds.asks(run.then("voyage 0 9 2"), "count = 6");
        bounds.asks(run.then("move 0", "move 0", "back 0", "back 0", "back 0"), "count = 6");
    }
}
