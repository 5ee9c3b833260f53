/** Part 2 of the terms (events and acts): each sentence that names a boundary case, at its two sides. */
public final class BoundTerms2Test {
    /** A ship that lies, with an act that is open: lots 1 (freight 2) and 3 (freight 4). */
    private static final Run OPEN = Run.of("voyage 0 100 3", "lot 0 1 50 50 1 20 0", "lot 0 2 40 30 2 10 1",
            "act 0", "give 0 1 5", "spend 0 9 7");

    private final Bounds bounds = new Bounds("BoundTerms2Test");

    public static void main(String[] args) {
        BoundTerms2Test test = new BoundTerms2Test();
        test.eventsAheadOfTheEnd();
        test.noEventsAtTheLastPort();
        test.noEventsWhenLost();
        test.loadingOnlyIfItLies();
        test.actsHaveNumbersFrom0On();
        test.atRiskIsWhatHasSomethingLeft();
        test.atRiskIsWhatIsAboard();
        test.atRiskIsWhatWasThere();
        test.aFreightWithSomethingLeftIsAtRisk();
        test.openTillLoading();
        test.openTillSailing();
        test.openTillComing();
        test.openTillAnotherAct();
        test.openTillALoss();
        test.openTillBeingLost();
        test.openInSpiteOfGivingsAndExpenses();
        test.openInSpiteOfWhatIsRefused();
        test.openAgainWhenTakenBack();
        test.givingsOnlyInAnOpenAct();
        test.expensesOnlyInAnOpenAct();
        test.givingsOfTheShipOrALot();
        test.lossesOfTheShipOrALot();
        test.madeGoodOfTheShip();
        test.madeGoodOfALotIsCut();
        test.madeGoodOfALotByWorthNotByLeft();
        test.madeGoodOfLargeNumbers();
        test.madeGoodOfOtherTerms();
        test.madeGoodForFreight();
        test.madeGoodForFreightOfOtherTerms();
        test.givingsAddUpWithinAnAct();
        test.givingsDoNotAddUpAcrossActs();
        test.nothingIsMadeGoodForALoss();
        test.lossesNeedNoAct();
        test.lostLeavesNothingOfWhatIsAboard();
        test.bounds.end();
    }

    private void eventsAheadOfTheEnd() {
        bounds.sentence("EVENTS of a VOYAGE that isn't ENDED (the last ones that come)");
        Run sailing = Run.of("voyage 0 100 2", "lot 0 1 50 50 1 20 0", "move 0");
        bounds.allowed(sailing, "act 0", 0);
        bounds.allowed(sailing.then("act 0"), "give 0 1 1", 1);
        bounds.allowed(sailing.then("act 0"), "spend 0 4 1", 1);
        bounds.allowed(sailing, "lose 0 1 1", 49);
        bounds.allowed(sailing, "move 0", 1);
        bounds.allowed(sailing, "lost 0", 1);
        bounds.allowed(sailing, "back 0", 1);
    }

    private void noEventsAtTheLastPort() {
        bounds.sentence("EVENTS of a VOYAGE that isn't ENDED (none at the last port)");
        Run ended = OPEN.then("move 0", "move 0", "move 0", "act 0", "give 0 3 4", "move 0");
        bounds.asks(ended, "told 0 2 = 1", "told 0 6 = 11");
        bounds.refused(ended, "lot 0 1 5 5 2 0 0", "lot 0 1 5 5 3 0 0", "move 0", "act 0", "give 0 0 1", "give 0 3 1",
                "spend 0 9 1", "lose 0 0 1", "lose 0 3 1", "lost 0");
        bounds.allowed(ended, "back 0", 1);
    }

    private void noEventsWhenLost() {
        bounds.sentence("EVENTS of a VOYAGE that isn't ENDED (none when it is lost)");
        Run lost = OPEN.then("move 0", "move 0", "move 0", "act 0", "give 0 3 4", "lost 0");
        bounds.asks(lost, "told 0 2 = 1", "told 0 6 = 11");
        bounds.refused(lost, "lot 0 1 5 5 2 0 0", "move 0", "act 0", "give 0 0 1", "give 0 1 1", "spend 0 9 1",
                "lose 0 0 1", "lose 0 1 1", "lose 0 3 1", "lost 0");
        bounds.allowed(lost, "back 0", 1);
    }

    private void loadingOnlyIfItLies() {
        bounds.sentence("loading (only if it LIES)");
        bounds.allowed(OPEN, "lot 0 3 5 5 2 0 0", 5);
        bounds.refused(OPEN.then("move 0"), "lot 0 3 5 5 2 0 0", "lot 0 3 5 5 1 0 0");
        bounds.allowed(OPEN.then("move 0", "back 0"), "lot 0 3 5 5 2 0 0", 5);
        bounds.allowed(OPEN.times(2, "move 0"), "lot 0 3 5 5 2 0 0", 5);
        bounds.refused(OPEN.times(3, "move 0"), "lot 0 3 5 5 2 0 0");
    }

    private void actsHaveNumbersFrom0On() {
        bounds.sentence("An ACT begins: it has a number (from 0 on)");
        Run run = Run.of("voyage 0 100 2", "voyage 0 100 2");
        bounds.refused(run, "share 0 0 0 0", "sum 0 0 0");
        run = bounds.allowed(run, "act 0", 0);
        bounds.asks(run, "share 0 0 0 0 = 1", "sum 0 0 0 = 0");
        bounds.refused(run, "share 0 1 0 0", "sum 0 1 0", "share 0 -1 0 0", "sum 0 -1 0");
        run = bounds.allowed(run, "act 0", 1);
        bounds.allowed(run, "act 0", 2);
        bounds.allowed(run, "act 1", 0);
        bounds.allowed(run.then("back 0"), "act 0", 1);
        bounds.allowed(run.then("back 0", "back 0"), "act 0", 0);
    }

    private void atRiskIsWhatHasSomethingLeft() {
        bounds.sentence("AT RISK in it are all INTERESTS that are ABOARD then with something LEFT (1, and 0)");
        Run run = Run.of("voyage 0 100 2", "lot 0 1 50 50 1 20 0");
        Run one = run.then("lose 0 0 99", "lose 0 1 49", "act 0");
        bounds.asks(one, "interest 0 0 2 = 1", "interest 0 1 2 = 1", "interest 0 2 2 = 1", "share 0 0 0 0 = 1",
                "share 0 0 1 0 = 1", "share 0 0 2 0 = 1");
        Run none = run.then("lose 0 0 100", "lose 0 1 50", "act 0");
        bounds.asks(none, "share 0 0 0 0 = 0", "share 0 0 1 0 = 0", "share 0 0 2 0 = 0");
        Run back = run.then("lose 0 0 100", "back 0", "act 0");
        bounds.asks(back, "share 0 0 0 0 = 1");
        Run later = run.then("act 0", "give 0 1 50", "lose 0 0 100");
        bounds.asks(later, "share 0 0 0 0 = 1", "share 0 0 1 0 = 1", "share 0 0 2 0 = 1");
        bounds.asks(later.then("act 0"), "share 0 1 0 0 = 0", "share 0 1 1 0 = 0", "share 0 1 2 0 = 0");
    }

    private void atRiskIsWhatIsAboard() {
        bounds.sentence("AT RISK in it are all INTERESTS that are ABOARD then (under way there, and come there)");
        Run run = Run.of("voyage 0 100 3", "lot 0 1 50 50 1 20 0", "lot 0 2 40 40 2 0 0", "move 0");
        bounds.asks(run.then("act 0"), "share 0 0 0 0 = 1", "share 0 0 1 0 = 1", "share 0 0 2 0 = 1",
                "share 0 0 3 0 = 1");
        bounds.asks(run.then("move 0", "act 0"), "share 0 0 0 0 = 1", "share 0 0 1 0 = 0", "share 0 0 2 0 = 0",
                "share 0 0 3 0 = 1");
        bounds.asks(run.then("act 0", "move 0"), "share 0 0 1 0 = 1", "share 0 0 2 0 = 1");
    }

    private void atRiskIsWhatWasThere() {
        bounds.sentence("AT RISK in it are all INTERESTS that are ABOARD then (not those that come later)");
        Run run = Run.of("voyage 0 100 3", "act 0", "lot 0 1 50 50 1 20 0", "act 0");
        bounds.asks(run, "share 0 0 0 0 = 1", "share 0 0 1 0 = 0", "share 0 0 2 0 = 0", "share 0 1 1 0 = 1",
                "share 0 1 2 0 = 1");
        Run another = Run.of("voyage 0 100 3", "lot 0 1 50 50 1 20 0", "act 0", "back 0", "back 0", "act 0",
                "lot 0 1 50 50 1 20 0");
        bounds.asks(another, "share 0 0 1 0 = 0", "share 0 0 2 0 = 0");
    }

    private void aFreightWithSomethingLeftIsAtRisk() {
        bounds.sentence("AT RISK in it are all INTERESTS .. with something LEFT (a freight)");
        Run run = Run.of("voyage 0 100 2", "lot 0 1 1000000 1000000 1 1 0");
        bounds.asks(run.then("lose 0 1 999999", "act 0"), "interest 0 2 2 = 1", "share 0 0 2 0 = 1");
        bounds.asks(run.then("lose 0 1 1000000", "act 0"), "interest 0 2 2 = 0", "share 0 0 2 0 = 0");
    }

    private void openTillLoading() {
        bounds.sentence("It is OPEN till another EVENT comes (loading)");
        bounds.asks(OPEN, "told 0 5 = 0");
        Run closed = bounds.allowed(OPEN, "lot 0 3 5 5 2 0 0", 5);
        bounds.asks(closed, "told 0 5 = -1");
        bounds.refused(closed, "give 0 0 1", "spend 0 1 1");
    }

    private void openTillSailing() {
        bounds.sentence("It is OPEN till another EVENT comes (sailing)");
        Run closed = bounds.allowed(OPEN, "move 0", 0);
        bounds.asks(closed, "told 0 5 = -1");
        bounds.refused(closed, "give 0 0 1", "spend 0 1 1");
    }

    private void openTillComing() {
        bounds.sentence("It is OPEN till another EVENT comes (coming)");
        Run open = OPEN.then("move 0", "act 0");
        bounds.asks(open, "told 0 5 = 1");
        Run closed = bounds.allowed(open, "move 0", 1);
        bounds.asks(closed, "told 0 5 = -1", "told 0 2 = 0");
        bounds.refused(closed, "give 0 0 1", "spend 0 1 1");
        Run ended = closed.then("act 0", "move 0", "act 0", "move 0");
        bounds.asks(ended, "told 0 5 = -1", "told 0 2 = 1");
    }

    private void openTillAnotherAct() {
        bounds.sentence("It is OPEN till another EVENT comes (another act)");
        Run next = bounds.allowed(OPEN, "act 0", 1);
        bounds.asks(next, "told 0 5 = 1");
        Run given = bounds.allowed(next, "give 0 1 3", 3);
        bounds.asks(given, "share 0 0 1 1 = 5", "share 0 1 1 1 = 3");
        Run spent = bounds.allowed(next, "spend 0 9 2", 2);
        bounds.asks(spent, "sum 0 0 0 = 7", "sum 0 1 0 = 2");
    }

    private void openTillALoss() {
        bounds.sentence("It is OPEN till another EVENT comes (a loss)");
        Run closed = bounds.allowed(OPEN, "lose 0 0 1", 99);
        bounds.asks(closed, "told 0 5 = -1");
        bounds.refused(closed, "give 0 0 1", "spend 0 1 1");
    }

    private void openTillBeingLost() {
        bounds.sentence("It is OPEN till another EVENT comes (being lost)");
        Run open = OPEN.then("move 0", "act 0");
        Run closed = bounds.allowed(open, "lost 0", 1);
        bounds.asks(closed, "told 0 5 = -1");
        bounds.refused(closed, "give 0 0 1", "spend 0 1 1");
    }

    private void openInSpiteOfGivingsAndExpenses() {
        bounds.sentence("It is OPEN till another EVENT but a GIVING or an EXPENSE comes");
        Run run = OPEN.then("give 0 0 1");
        bounds.asks(run, "told 0 5 = 0");
        run = run.then("spend 0 3 1");
        bounds.asks(run, "told 0 5 = 0");
        run = run.times(50, "give 0 0 1").times(50, "spend 0 3 1");
        bounds.asks(run, "told 0 5 = 0", "sum 0 0 0 = 58", "share 0 0 0 1 = 51");
    }

    private void openInSpiteOfWhatIsRefused() {
        bounds.sentence("It is OPEN till another EVENT comes (what is refused is none)");
        bounds.refused(OPEN, "lot 0 3 5 6 2 0 0", "lose 0 0 101", "lost 0", "give 0 0 101", "spend 0 30 1");
        Run full = OPEN.times(11, "act 0");
        bounds.asks(full, "told 0 5 = 11");
        bounds.refused(full, "act 0");
        bounds.refused(OPEN.then("move 0", "act 0"), "lot 0 3 5 5 2 0 0");
    }

    private void openAgainWhenTakenBack() {
        bounds.sentence("It is OPEN till another EVENT comes (and again when that is taken back)");
        for (String call : new String[] {"lot 0 3 5 5 2 3 0", "move 0", "act 0", "lose 0 1 2"}) {
            bounds.alike(OPEN, OPEN.then(call, "back 0"));
        }
        Run sailing = OPEN.then("move 0", "act 0", "give 0 1 2");
        bounds.alike(sailing, sailing.then("move 0", "back 0"));
        bounds.alike(sailing, sailing.then("lost 0", "back 0"));
    }

    private void givingsOnlyInAnOpenAct() {
        bounds.sentence("A GIVING (in an OPEN ACT)");
        Run run = Run.of("voyage 0 100 3", "lot 0 1 50 50 2 20 0");
        bounds.refused(run, "give 0 0 1", "give 0 1 1");
        bounds.allowed(run.then("act 0"), "give 0 1 1", 1);
        bounds.refused(run.then("act 0", "back 0"), "give 0 1 1");
        bounds.refused(run.then("act 0", "move 0"), "give 0 1 1");
        bounds.allowed(run.then("act 0", "move 0", "back 0"), "give 0 1 1", 1);
        Run other = run.then("voyage 1 10 2", "act 1");
        bounds.refused(other, "give 0 1 1");
        bounds.allowed(other, "give 1 0 1", 1);
    }

    private void expensesOnlyInAnOpenAct() {
        bounds.sentence("An EXPENSE: an owner spends n for the ACT");
        Run run = Run.of("voyage 0 100 3");
        bounds.refused(run, "spend 0 1 1");
        bounds.asks(bounds.allowed(run.then("act 0"), "spend 0 1 5", 5), "sum 0 0 0 = 5", "interest 0 0 2 = 100");
        bounds.refused(run.then("act 0", "back 0"), "spend 0 1 1");
        bounds.refused(run.then("act 0", "lose 0 0 1"), "spend 0 1 1");
        bounds.allowed(run.then("act 0", "lose 0 0 1", "back 0"), "spend 0 1 1", 1);
    }

    private void givingsOfTheShipOrALot() {
        bounds.sentence("A GIVING: n are TAKEN from the SHIP or a LOT");
        bounds.allowed(OPEN, "give 0 0 1", 1);
        bounds.allowed(OPEN, "give 0 1 1", 1);
        bounds.refused(OPEN, "give 0 2 1", "give 0 4 1", "give 0 -1 1", "give 0 5 1");
        bounds.allowed(OPEN, "give 0 3 1", 0);
    }

    private void lossesOfTheShipOrALot() {
        bounds.sentence("A LOSS: n are TAKEN from the SHIP or a LOT");
        bounds.allowed(OPEN, "lose 0 0 1", 99);
        bounds.allowed(OPEN, "lose 0 1 1", 44);
        bounds.refused(OPEN, "lose 0 2 1", "lose 0 4 1", "lose 0 -1 1", "lose 0 5 1");
        bounds.allowed(OPEN, "lose 0 3 1", 39);
    }

    private void madeGoodOfTheShip() {
        bounds.sentence("MADE GOOD for it: of the SHIP n");
        Run least = Run.of("voyage 0 1 2", "act 0");
        bounds.asks(bounds.allowed(least, "give 0 0 1", 1), "share 0 0 0 1 = 1", "share 0 0 0 2 = 1", "sum 0 0 1 = 1");
        Run most = Run.of("voyage 0 1000000 2", "act 0");
        bounds.asks(bounds.allowed(most, "give 0 0 1000000", 1000000), "share 0 0 0 2 = 1000000",
                "sum 0 0 1 = 1000000");
    }

    private void madeGoodOfALotIsCut() {
        bounds.sentence("MADE GOOD .. of a LOT of TERMS 0 n times TOLD by WORTH (cut)");
        Run open = Run.of("voyage 0 100 2", "lot 0 1 3 1 1 0 0", "lot 0 1 3 2 1 0 0", "lot 0 1 3 3 1 0 0", "act 0");
        String[] rows = {"give 0 1 1 = 0", "give 0 1 2 = 0", "give 0 1 3 = 1", "give 0 2 1 = 0", "give 0 2 2 = 1",
            "give 0 2 3 = 2", "give 0 3 1 = 1", "give 0 3 2 = 2", "give 0 3 3 = 3"};
        bounds.asks(open, rows);
        bounds.asks(open.then("give 0 1 2"), "share 0 0 1 1 = 2", "share 0 0 1 2 = 0", "interest 0 1 2 = 1");
    }

    private void madeGoodOfALotByWorthNotByLeft() {
        bounds.sentence("MADE GOOD .. of a LOT .. n times TOLD by WORTH, not by what is LEFT");
        Run open = Run.of("voyage 0 100 2", "lot 0 1 100 60 1 0 0", "lose 0 1 50", "act 0");
        bounds.allowed(open, "give 0 1 50", 30);
        bounds.allowed(open, "give 0 1 5", 3);
        bounds.allowed(open, "give 0 1 1", 0);
        bounds.allowed(open, "give 0 1 2", 1);
    }

    private void madeGoodOfLargeNumbers() {
        bounds.sentence("MADE GOOD .. n times TOLD by WORTH (numbers whose product is past an int)");
        Run open = Run.of("voyage 0 100 2", "lot 0 1 1000000 999999 1 0 0", "act 0");
        bounds.allowed(open, "give 0 1 1000000", 999999);
        bounds.allowed(open, "give 0 1 999999", 999998);
        bounds.allowed(open, "give 0 1 1", 0);
        bounds.allowed(open, "give 0 1 2", 1);
        Run least = Run.of("voyage 0 100 2", "lot 0 1 1000000 1 1 0 0", "act 0");
        bounds.allowed(least, "give 0 1 999999", 0);
        bounds.allowed(least, "give 0 1 1000000", 1);
    }

    private void madeGoodOfOtherTerms() {
        bounds.sentence("MADE GOOD .. of other TERMS 0");
        for (int terms = 0; terms <= 2; terms++) {
            Run open = Run.of("voyage 0 100 2", "lot 0 1 10 10 1 0 " + terms, "act 0");
            long good = terms == 0 ? 10 : 0;
            Run given = bounds.allowed(open, "give 0 1 10", good);
            bounds.asks(given, "share 0 0 1 1 = 10", "share 0 0 1 2 = " + good, "sum 0 0 1 = " + good,
                    "interest 0 1 2 = 0");
        }
    }

    private void madeGoodForFreight() {
        bounds.sentence("MADE GOOD .. for its FREIGHT, of TERMS 0, what that lost");
        Run open = Run.of("voyage 0 100 2", "lot 0 1 3 1 1 10 0", "act 0");
        bounds.asks(bounds.allowed(open, "give 0 1 1", 0), "share 0 0 2 1 = 3", "share 0 0 2 2 = 3", "sum 0 0 1 = 3");
        bounds.asks(bounds.allowed(open, "give 0 1 2", 0), "share 0 0 2 1 = 6", "share 0 0 2 2 = 6", "sum 0 0 1 = 6");
        bounds.asks(bounds.allowed(open, "give 0 1 3", 1), "share 0 0 2 1 = 10", "share 0 0 2 2 = 10",
                "sum 0 0 1 = 11");
        Run none = Run.of("voyage 0 100 2", "lot 0 1 3 3 1 2 0", "act 0", "give 0 1 1");
        bounds.asks(none, "share 0 0 2 1 = 0", "share 0 0 2 2 = 0", "interest 0 2 2 = 2");
        Run next = Run.of("voyage 0 100 2", "lot 0 1 3 3 1 0 0", "lot 0 1 3 3 1 2 0", "act 0", "give 0 1 3");
        bounds.asks(next, "share 0 0 2 1 = 0", "share 0 0 2 2 = 0", "share 0 0 3 1 = 0", "sum 0 0 1 = 3");
    }

    private void madeGoodForFreightOfOtherTerms() {
        bounds.sentence("MADE GOOD .. for its FREIGHT .. of others 0");
        for (int terms = 1; terms <= 2; terms++) {
            Run open = Run.of("voyage 0 100 2", "lot 0 1 10 10 1 10 " + terms, "act 0");
            bounds.asks(open.then("give 0 1 1"), "share 0 0 2 1 = 1", "share 0 0 2 2 = 0", "sum 0 0 1 = 0");
            bounds.asks(open.then("give 0 1 10"), "share 0 0 2 1 = 10", "share 0 0 2 2 = 0", "sum 0 0 1 = 0",
                    "interest 0 2 2 = 0");
        }
    }

    private void givingsAddUpWithinAnAct() {
        bounds.sentence("(These add up within an ACT.)");
        Run open = Run.of("voyage 0 100 2", "lot 0 1 4 2 1 0 0", "act 0");
        bounds.asks(open.then("give 0 1 1", "give 0 1 1"), "share 0 0 1 1 = 2", "share 0 0 1 2 = 0", "sum 0 0 1 = 0");
        bounds.asks(open.then("give 0 1 2"), "share 0 0 1 1 = 2", "share 0 0 1 2 = 1", "sum 0 0 1 = 1");
        Run both = open.then("give 0 1 2", "give 0 0 3", "give 0 1 2");
        bounds.asks(both, "share 0 0 1 1 = 4", "share 0 0 1 2 = 2", "share 0 0 0 2 = 3", "sum 0 0 1 = 5");
    }

    private void givingsDoNotAddUpAcrossActs() {
        bounds.sentence("(These add up within an ACT, not across two.)");
        Run run = OPEN.then("act 0", "give 0 1 4", "give 0 0 6");
        bounds.asks(run, "share 0 0 1 1 = 5", "share 0 0 1 2 = 5", "share 0 1 1 1 = 4", "share 0 1 1 2 = 4",
                "share 0 0 0 1 = 0", "share 0 1 0 1 = 6");
        bounds.asks(run, "sum 0 0 1 = 7", "sum 0 1 1 = 11");
    }

    private void nothingIsMadeGoodForALoss() {
        bounds.sentence("A LOSS: .. for which nothing is MADE GOOD");
        Run open = Run.of("voyage 0 100 2", "lot 0 1 10 10 1 10 0", "act 0");
        Run lost = bounds.allowed(bounds.allowed(open, "lose 0 1 10", 0), "lose 0 0 100", 0);
        bounds.asks(lost, "share 0 0 0 1 = 0", "share 0 0 0 2 = 0", "share 0 0 1 1 = 0", "share 0 0 1 2 = 0",
                "share 0 0 2 1 = 0", "share 0 0 2 2 = 0", "sum 0 0 1 = 0");
        bounds.asks(lost.then("move 0", "move 0"), "sum 0 0 3 = 0", "sum 0 0 4 = 0", "balance 0 1 = 0");
    }

    private void lossesNeedNoAct() {
        bounds.sentence("A LOSS: n are TAKEN (no act needs to be open)");
        Run run = Run.of("voyage 0 100 2", "lot 0 1 10 10 1 10 0");
        bounds.allowed(run, "lose 0 1 4", 6);
        bounds.allowed(run, "lose 0 0 4", 96);
        bounds.allowed(run.then("move 0"), "lose 0 1 4", 6);
        bounds.allowed(run.then("lose 0 1 4"), "lose 0 1 4", 2);
    }

    private void lostLeavesNothingOfWhatIsAboard() {
        bounds.sentence("LOST: nothing is LEFT of all that is ABOARD");
        Run run = Run.of("voyage 0 100 3", "lot 0 1 10 10 1 8 0", "lot 0 2 20 20 2 6 0", "move 0");
        Run all = run.then("lost 0");
        for (int i = 0; i < 5; i++) {
            bounds.asks(all, "interest 0 " + i + " 2 = 0", "interest 0 " + i + " 8 = 0");
        }
        Run some = run.then("move 0", "move 0", "lost 0");
        long[] left = {0, 10, 8, 0, 0};
        for (int i = 0; i < 5; i++) {
            bounds.asks(some, "interest 0 " + i + " 2 = " + left[i], "interest 0 " + i + " 8 = " + left[i]);
        }
        bounds.alike(run, run.then("lost 0", "back 0"));
    }
}
