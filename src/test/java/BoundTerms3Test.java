/** Part 3 of the terms (adjusting): each sentence that names a boundary case, at its two sides. */
public final class BoundTerms3Test {
    private final Bounds bounds = new Bounds("BoundTerms3Test");

    public static void main(String[] args) {
        BoundTerms3Test test = new BoundTerms3Test();
        test.adjustedOnlyWhenEnded();
        test.hasIsWhatIsLeft();
        test.fromTheLatestActBack();
        test.partIsOfThoseAtRisk();
        test.partHasWhatIsMadeGoodInThisActAlone();
        test.expensesNotAboveWhatTheyHave();
        test.expensesNotAboveWhatTheyHaveWithoutMadeGood();
        test.expensesNotAboveWhatThoseAtRiskHave();
        test.expensesNotAboveWhatLaterActsLeave();
        test.noExpensesWhereNobodyHasAnything();
        test.theSumIsExpensesAndMadeGood();
        test.noneIsBorneIfThereAreNoParts();
        test.oneUnitMoreWhereMostWasCutOff();
        test.oneUnitMoreOfLikeOnesTheLesserNumber();
        test.unitsOfAsManyInterestsAsGo();
        test.unitsOfFewBehindUnitsOfMany();
        test.noUnitMoreWhereNothingWasCutOff();
        test.noUnitMoreForOneThatIsNotAtRisk();
        test.largeSumsAreBorne();
        test.eachHasItsPartLessWhatIsBorne();
        test.payersGetAllThatIsMadeGood();
        test.payersGetByWhatEachSpentInTheAct();
        test.payersGetUnitsOfLikeOnesTheLesserOwner();
        test.payersGetUnitsWhereMostWasCutOff();
        test.largeExpensesAreGot();
        test.balanceOfAnOwnerOfSeveral();
        test.balanceOfOneAlone();
        test.noPaymentsIfAllBalancesAre0();
        test.theLesserOwnerOfTheLeastPays();
        test.theLesserOwnerOfTheGreatestIsPaid();
        test.asMuchAsMakesOneOfBoth0();
        test.theMostPayments();
        test.bounds.end();
    }

    private static Run ended(Run run) {
        return run.times(20, "move 0");
    }

    private void adjustedOnlyWhenEnded() {
        bounds.sentence("ADJUSTING, when it is ENDED");
        Run ahead = Run.of("voyage 0 10 2", "act 0", "spend 0 1 4", "move 0");
        bounds.refused(ahead, "interest 0 0 8", "share 0 0 0 3", "share 0 0 0 4", "sum 0 0 2", "sum 0 0 3", "sum 0 0 4",
                "gets 0 0 1", "without 0 0 0", "balance 0 1", "payments 0", "payment 0 0 0");
        Run end = ahead.then("move 0");
        bounds.asks(end, "interest 0 0 8 = 6", "share 0 0 0 3 = 10", "share 0 0 0 4 = 4", "sum 0 0 2 = 4",
                "sum 0 0 3 = 4", "sum 0 0 4 = 10", "gets 0 0 1 = 4", "without 0 0 0 = 10", "balance 0 1 = 4",
                "payments 0 = 1", "payment 0 0 0 = 0");
        bounds.alike(ahead, end.then("back 0"));
        Run more = end.then("back 0", "act 0", "spend 0 2 6", "move 0");
        bounds.asks(more, "interest 0 0 8 = 0", "gets 0 0 1 = 4", "gets 0 1 2 = 6");
    }

    private void hasIsWhatIsLeft() {
        bounds.sentence("HAS of an INTEREST is what is LEFT of it");
        Run run = Run.of("voyage 0 10 2", "lot 0 1 8 4 1 6 1", "lot 0 2 5 5 1 0 0", "lose 0 1 4", "lose 0 2 1");
        bounds.asks(ended(run), "interest 0 0 8 = 10", "interest 0 1 8 = 4", "interest 0 2 8 = 3",
                "interest 0 3 8 = 5");
        bounds.asks(ended(run.then("lose 0 3 5", "lose 0 0 10")), "interest 0 0 8 = 0", "interest 0 3 8 = 0");
        bounds.asks(run.then("move 0", "lost 0"), "interest 0 0 8 = 0", "interest 0 1 8 = 0", "interest 0 2 8 = 0");
    }

    private void fromTheLatestActBack() {
        bounds.sentence("From the latest ACT back to the first one");
        Run run = ended(Run.of("voyage 3 600 2", "lot 0 4 400 400 1 0 0", "act 0", "give 0 1 200", "act 0",
                "spend 0 3 100"));
        // The second act: 600 and 200 bear 100. The first: 525 and 175 + 200 bear 200: 116.67 and 83.33.
        bounds.asks(run, "share 0 1 0 4 = 75", "share 0 1 1 4 = 25", "share 0 0 0 3 = 525", "share 0 0 1 3 = 375");
        bounds.asks(run, "share 0 0 0 4 = 117", "share 0 0 1 4 = 83", "interest 0 0 8 = 408", "interest 0 1 8 = 292");
        Run swapped = ended(Run.of("voyage 3 600 2", "lot 0 4 400 400 1 0 0", "act 0", "spend 0 3 100", "act 0",
                "give 0 1 200"));
        // The second act: 600 and 400 bear 200. The first: 480 and 320 bear 100.
        bounds.asks(swapped, "share 0 1 0 4 = 120", "share 0 1 1 4 = 80", "share 0 0 0 4 = 60", "share 0 0 1 4 = 40");
    }

    private void partIsOfThoseAtRisk() {
        bounds.sentence("of those AT RISK in it: PART is what the INTEREST HAS and what is MADE GOOD");
        Run run = ended(Run.of("voyage 0 10 3", "lot 0 1 8 8 1 0 0", "move 0", "move 0", "act 0", "give 0 0 2",
                "lot 0 2 5 5 2 3 0"));
        bounds.asks(run, "share 0 0 0 3 = 10", "share 0 0 1 3 = 0", "share 0 0 2 3 = 0", "share 0 0 3 3 = 0");
        bounds.asks(run, "share 0 0 0 4 = 2", "share 0 0 1 4 = 0", "share 0 0 2 4 = 0", "share 0 0 3 4 = 0");
        bounds.asks(run, "interest 0 0 8 = 8", "interest 0 1 8 = 8", "interest 0 2 8 = 5", "interest 0 3 8 = 3");
    }

    private void partHasWhatIsMadeGoodInThisActAlone() {
        bounds.sentence("PART is what the INTEREST HAS and what is MADE GOOD for it in this ACT");
        Run run = ended(Run.of("voyage 0 30 2", "lot 0 1 30 30 1 0 0", "act 0", "give 0 1 10", "act 0", "give 0 1 20"));
        // The second act: 30 and 20 bear 20: 12 and 8. The first: 18 and 12 + 10 bear 10: 4.5 and 5.5.
        bounds.asks(run, "share 0 1 0 3 = 30", "share 0 1 1 3 = 20", "share 0 1 0 4 = 12", "share 0 1 1 4 = 8");
        bounds.asks(run, "share 0 0 0 3 = 18", "share 0 0 1 3 = 22", "share 0 0 0 4 = 5", "share 0 0 1 4 = 5");
        bounds.asks(run, "interest 0 0 8 = 13", "interest 0 1 8 = 17");
    }

    private void expensesNotAboveWhatTheyHave() {
        bounds.sentence("EXPENSES made good are .. not more than all those AT RISK HAVE together");
        Run open = Run.of("voyage 0 10 2", "lot 0 1 20 20 1 0 0", "act 0");
        Run below = ended(open.then("spend 0 5 29"));
        bounds.asks(below, "sum 0 0 0 = 29", "sum 0 0 2 = 29", "sum 0 0 3 = 29", "gets 0 0 5 = 29",
                "interest 0 0 8 = 0", "interest 0 1 8 = 1");
        Run like = ended(open.then("spend 0 5 30"));
        bounds.asks(like, "sum 0 0 0 = 30", "sum 0 0 2 = 30", "sum 0 0 3 = 30", "gets 0 0 5 = 30",
                "interest 0 0 8 = 0", "interest 0 1 8 = 0");
        Run above = ended(open.then("spend 0 5 31"));
        bounds.asks(above, "sum 0 0 0 = 31", "sum 0 0 2 = 30", "sum 0 0 3 = 30", "gets 0 0 5 = 30",
                "interest 0 0 8 = 0", "interest 0 1 8 = 0", "balance 0 5 = 30");
        bounds.asks(ended(open.then("spend 0 5 1000000")), "sum 0 0 0 = 1000000", "sum 0 0 2 = 30", "gets 0 0 5 = 30");
    }

    private void expensesNotAboveWhatTheyHaveWithoutMadeGood() {
        bounds.sentence("EXPENSES made good .. not more than they HAVE (what is MADE GOOD isn't had)");
        Run open = Run.of("voyage 0 10 2", "lot 0 1 50 50 1 0 0", "act 0", "give 0 1 50");
        bounds.asks(ended(open.then("spend 0 2 9")), "sum 0 0 2 = 9", "sum 0 0 3 = 59", "sum 0 0 4 = 60");
        bounds.asks(ended(open.then("spend 0 2 10")), "sum 0 0 2 = 10", "sum 0 0 3 = 60", "interest 0 1 8 = 0");
        bounds.asks(ended(open.then("spend 0 2 11")), "sum 0 0 2 = 10", "sum 0 0 3 = 60", "interest 0 1 8 = 0");
    }

    private void expensesNotAboveWhatThoseAtRiskHave() {
        bounds.sentence("EXPENSES made good .. not more than all those AT RISK HAVE (others have for themselves)");
        Run open = Run.of("voyage 0 10 3", "lot 0 1 50 50 1 0 0", "move 0", "move 0", "act 0");
        bounds.asks(ended(open.then("spend 0 2 10")), "sum 0 0 2 = 10", "interest 0 1 8 = 50");
        bounds.asks(ended(open.then("spend 0 2 11")), "sum 0 0 2 = 10", "interest 0 1 8 = 50");
        Run later = open.then("spend 0 2 11", "lot 0 3 70 70 2 20 0");
        bounds.asks(ended(later), "sum 0 0 2 = 10", "interest 0 2 8 = 70", "interest 0 3 8 = 20");
    }

    private void expensesNotAboveWhatLaterActsLeave() {
        bounds.sentence("EXPENSES made good .. not more than all those AT RISK HAVE (when later acts are told)");
        Run run = Run.of("voyage 0 10 2", "act 0");
        Run like = ended(run.then("spend 0 1 5", "act 0", "spend 0 2 5"));
        bounds.asks(like, "sum 0 1 2 = 5", "sum 0 0 2 = 5", "interest 0 0 8 = 0");
        Run above = ended(run.then("spend 0 1 6", "act 0", "spend 0 2 5"));
        bounds.asks(above, "sum 0 1 2 = 5", "sum 0 0 2 = 5", "gets 0 0 1 = 5", "interest 0 0 8 = 0");
        Run all = ended(run.then("spend 0 1 6", "act 0", "spend 0 2 10"));
        bounds.asks(all, "sum 0 1 2 = 10", "sum 0 0 2 = 0", "gets 0 0 1 = 0", "sum 0 0 4 = 0", "interest 0 0 8 = 0");
    }

    private void noExpensesWhereNobodyHasAnything() {
        bounds.sentence("EXPENSES made good .. not more than all those AT RISK HAVE (nothing)");
        Run open = Run.of("voyage 0 10 2", "act 0", "spend 0 2 1");
        bounds.asks(ended(open.then("lose 0 0 9")), "sum 0 0 2 = 1", "gets 0 0 2 = 1", "payments 0 = 1");
        bounds.asks(ended(open.then("lose 0 0 10")), "sum 0 0 2 = 0", "gets 0 0 2 = 0", "payments 0 = 0");
        bounds.asks(open.then("move 0", "lost 0"), "sum 0 0 2 = 0", "gets 0 0 2 = 0", "payments 0 = 0");
    }

    private void theSumIsExpensesAndMadeGood() {
        bounds.sentence("The SUM is these and all that is MADE GOOD for INTERESTS AT RISK");
        Run open = Run.of("voyage 0 100 2", "lot 0 1 10 5 1 8 0", "lot 0 2 10 10 1 8 1", "act 0");
        bounds.asks(ended(open), "sum 0 0 3 = 0", "sum 0 0 4 = 136");
        Run given = open.then("give 0 1 6", "give 0 3 5", "give 0 0 7", "spend 0 9 2");
        // 3 for the lot, 4 for its freight (4.8, cut), 7 for the ship, and 2.
        bounds.asks(ended(given), "sum 0 0 1 = 14", "sum 0 0 2 = 2", "sum 0 0 3 = 16");
        // 100, 4 + 3, 4 + 4, 5 and 4.
        bounds.asks(ended(given), "sum 0 0 4 = 124", "share 0 0 0 3 = 100", "share 0 0 1 3 = 7", "share 0 0 2 3 = 8",
                "share 0 0 3 3 = 5", "share 0 0 4 3 = 4");
    }

    private void noneIsBorneIfThereAreNoParts() {
        bounds.sentence("BORNE by each is .. (none, if there are none)");
        Run nobody = ended(Run.of("voyage 0 10 2", "lose 0 0 10", "act 0", "spend 0 2 4"));
        bounds.asks(nobody, "share 0 0 0 0 = 0", "share 0 0 0 3 = 0", "share 0 0 0 4 = 0", "sum 0 0 3 = 0",
                "sum 0 0 4 = 0", "balance 0 2 = 0", "without 0 0 0 = 0");
        Run lost = Run.of("voyage 0 10 2", "lot 0 1 9 9 1 5 1", "move 0", "act 0", "spend 0 2 4", "give 0 1 9",
                "lost 0");
        bounds.asks(lost, "share 0 0 0 0 = 1", "share 0 0 0 3 = 0", "share 0 0 0 4 = 0", "share 0 0 1 4 = 0",
                "sum 0 0 3 = 0", "sum 0 0 4 = 0", "balance 0 2 = 0");
        Run one = Run.of("voyage 0 10 2", "lot 0 1 9 9 1 0 0", "move 0", "act 0", "give 0 1 1", "spend 0 2 4",
                "lost 0");
        bounds.asks(one, "sum 0 0 3 = 1", "sum 0 0 4 = 1", "share 0 0 1 3 = 1", "share 0 0 1 4 = 1",
                "share 0 0 0 4 = 0", "balance 0 1 = 0", "interest 0 1 8 = 0");
    }

    private void oneUnitMoreWhereMostWasCutOff() {
        bounds.sentence("cut, and one unit more for those of which most was cut off");
        Run open = Run.of("voyage 0 1 2", "lot 0 1 1 1 1 0 0", "lot 0 2 2 2 1 0 0", "act 0");
        // 0.25, 0.25 and 0.5; 0.5, 0.5 and 1; 0.75, 0.75 and 1.5.
        borne(open.then("spend 0 5 1"), 0, 0, 1);
        borne(open.then("spend 0 5 2"), 1, 0, 1);
        borne(open.then("spend 0 5 3"), 1, 1, 1);
        borne(open.then("spend 0 5 4"), 1, 1, 2);
        Run two = Run.of("voyage 0 1 2", "lot 0 1 4 4 1 0 0", "act 0");
        // 0.4 and 1.6; 0.6 and 2.4.
        borne(two.then("spend 0 5 2"), 0, 2);
        borne(two.then("spend 0 5 3"), 1, 2);
    }

    private void oneUnitMoreOfLikeOnesTheLesserNumber() {
        bounds.sentence("of like ones the lesser number, till all of the SUM is BORNE");
        Run open = Run.of("voyage 9 10 2", "lot 0 3 10 10 1 0 0", "lot 0 2 10 10 1 0 0", "lot 0 1 10 10 1 0 0",
                "act 0");
        borne(open, 0, 0, 0, 0);
        borne(open.then("spend 0 5 1"), 1, 0, 0, 0);
        borne(open.then("spend 0 5 3"), 1, 1, 1, 0);
        borne(open.then("spend 0 5 4"), 1, 1, 1, 1);
        borne(open.then("spend 0 5 5"), 2, 1, 1, 1);
        borne(open.then("spend 0 5 7"), 2, 2, 2, 1);
        borne(open.then("spend 0 5 39"), 10, 10, 10, 9);
        borne(open.then("spend 0 5 40"), 10, 10, 10, 10);
    }

    private void unitsOfAsManyInterestsAsGo() {
        bounds.sentence("of like ones the lesser number, till all of the SUM is BORNE (81 of them)");
        Run open = Run.of("voyage 0 10 2").times(40, "lot 0 1 10 10 1 10 0").then("act 0");
        for (int units : new int[] {1, 40, 80, 81}) {
            Run end = ended(open.then("spend 0 5 " + units));
            for (int i = 0; i < 81; i++) {
                bounds.asks(end, "share 0 0 " + i + " 4 = " + (i < units ? 1 : 0));
            }
            bounds.asks(end, "sum 0 0 4 = 810", "interest 0 80 8 = " + (units > 80 ? 9 : 10), "without 0 0 80 = 10",
                    "without 0 0 81 = -1", "without 0 0 0 = 10", "payments 0 = " + (units > 1 ? 2 : 1));
        }
    }

    private void unitsOfFewBehindUnitsOfMany() {
        bounds.sentence("of like ones the lesser number (of a voyage that is adjusted behind a larger one)");
        Run many = ended(Run.of("voyage 0 10 2").times(40, "lot 0 1 10 10 1 10 0").then("act 0", "spend 0 5 7"));
        Run few = many.then("voyage 3 10 2", "lot 1 4 10 10 1 0 0", "act 1");
        Run one = few.then("spend 1 6 1", "move 1", "move 1");
        bounds.asks(one, "share 1 0 0 4 = 1", "share 1 0 1 4 = 0", "interest 1 0 8 = 9", "interest 1 1 8 = 10",
                "without 1 0 0 = 10", "share 0 0 6 4 = 1", "share 0 0 7 4 = 0");
        Run three = few.then("spend 1 6 1", "spend 1 7 1", "spend 1 8 1", "lose 1 0 9", "lose 1 1 9", "move 1",
                "move 1");
        bounds.asks(three, "share 1 0 0 4 = 1", "share 1 0 1 4 = 1", "gets 1 0 6 = 1", "gets 1 0 7 = 1",
                "gets 1 0 8 = 0");
    }

    private void noUnitMoreWhereNothingWasCutOff() {
        bounds.sentence("one unit more for those of which most was cut off (not where nothing was)");
        Run open = Run.of("voyage 0 2 2", "lot 0 1 1 1 1 0 0", "lot 0 2 1 1 1 0 0", "act 0");
        // 1, 0.5 and 0.5.
        borne(open.then("spend 0 5 2"), 1, 1, 0);
        Run zero = Run.of("voyage 0 10 2", "lot 0 1 3 3 1 0 0", "lot 0 2 3 3 1 0 0", "act 0", "spend 0 5 1",
                "lose 0 0 10");
        borne(zero, 0, 1, 0);
    }

    private void noUnitMoreForOneThatIsNotAtRisk() {
        bounds.sentence("one unit more for those of which most was cut off (of those at risk)");
        Run open = Run.of("voyage 0 10 2", "lot 0 1 3 3 1 0 0", "lot 0 2 3 3 1 0 0", "lot 0 3 3 3 1 0 0", "lose 0 0 10",
                "act 0");
        borne(open.then("spend 0 5 1"), 0, 1, 0, 0);
        borne(open.then("spend 0 5 2"), 0, 1, 1, 0);
        borne(open.then("spend 0 5 8"), 0, 3, 3, 2);
    }

    private void largeSumsAreBorne() {
        bounds.sentence("the SUM times its PART by all PARTS (numbers whose product is past an int)");
        Run open = Run.of("voyage 0 1000000 2", "lot 0 1 1000000 1000000 1 0 0", "act 0");
        borne(open.then("spend 0 5 1000000"), 500000, 500000);
        borne(open.then("spend 0 5 999999"), 500000, 499999);
        borne(open.then("give 0 1 1000000"), 500000, 500000);
        borne(open.then("give 0 1 1000000", "spend 0 5 1000000"), 1000000, 1000000);
        Run most = fullOfAll();
        bounds.asks(most, "sum 0 0 0 = 30000000", "sum 0 0 1 = 80000000", "sum 0 0 2 = 1000000", "sum 0 0 3 = 81000000",
                "sum 0 0 4 = 81000000", "share 0 0 0 4 = 1000000", "share 0 0 80 4 = 1000000", "interest 0 80 8 = 0");
    }

    /** 40 lots with freight, all given up, and 30 owners that spend: the largest numbers that come. */
    private static Run fullOfAll() {
        Run run = Run.of("voyage 0 1000000 2");
        for (int k = 0; k < 40; k++) {
            run = run.then("lot 0 " + k % 30 + " 1000000 1000000 1 1000000 0");
        }
        run = run.then("act 0");
        for (int k = 0; k < 40; k++) {
            run = run.then("give 0 " + (1 + 2 * k) + " 1000000");
        }
        for (int owner = 0; owner < 30; owner++) {
            run = run.then("spend 0 " + owner + " 1000000");
        }
        return ended(run);
    }

    private void eachHasItsPartLessWhatIsBorne() {
        bounds.sentence("Each HAS then: its PART less what is BORNE");
        Run open = Run.of("voyage 0 6 2", "lot 0 1 6 6 1 0 0", "act 0", "give 0 1 4");
        // 6 and 2 + 4 bear 4: 2 each.
        bounds.asks(ended(open), "interest 0 0 8 = 4", "interest 0 1 8 = 4");
        bounds.asks(ended(open.then("spend 0 5 8")), "interest 0 0 8 = 0", "interest 0 1 8 = 0");
        bounds.asks(ended(open.then("spend 0 5 7")), "interest 0 0 8 = 0", "interest 0 1 8 = 1");
    }

    private void payersGetAllThatIsMadeGood() {
        bounds.sentence("The payers of EXPENSES GET what is made good of them");
        Run open = Run.of("voyage 0 10 2", "act 0", "spend 0 3 4", "spend 0 8 6");
        bounds.asks(ended(open), "gets 0 0 3 = 4", "gets 0 0 8 = 6", "gets 0 0 0 = 0", "gets 0 0 29 = 0");
        // 10 by 11: 3.64, 5.45 and 0.91.
        bounds.asks(ended(open.then("spend 0 9 1")), "gets 0 0 3 = 4", "gets 0 0 8 = 5", "gets 0 0 9 = 1");
        bounds.asks(ended(Run.of("voyage 0 10 2", "act 0")), "gets 0 0 0 = 0", "gets 0 0 3 = 0");
    }

    private void payersGetByWhatEachSpentInTheAct() {
        bounds.sentence("The payers .. GET .. by what each spent in the ACT");
        Run open = Run.of("voyage 0 10 2", "act 0", "spend 0 3 9", "act 0", "spend 0 3 2", "spend 0 4 2");
        bounds.asks(ended(open), "gets 0 1 3 = 2", "gets 0 1 4 = 2", "gets 0 0 3 = 6", "gets 0 0 4 = 0");
        bounds.asks(ended(open.then("back 0")), "gets 0 1 3 = 2", "gets 0 1 4 = 0", "gets 0 0 3 = 8");
    }

    private void payersGetUnitsOfLikeOnesTheLesserOwner() {
        bounds.sentence("(cut, then one unit more each .., of like ones the lesser owner)");
        String spent = "act 0; spend 0 29 10; spend 0 7 10; spend 0 0 10";
        Run one = ended(Run.of("voyage 1 10 2", spent));
        bounds.asks(one, "gets 0 0 0 = 4", "gets 0 0 7 = 3", "gets 0 0 29 = 3");
        Run two = ended(Run.of("voyage 1 11 2", spent));
        bounds.asks(two, "gets 0 0 0 = 4", "gets 0 0 7 = 4", "gets 0 0 29 = 3");
        Run three = ended(Run.of("voyage 1 12 2", spent));
        bounds.asks(three, "gets 0 0 0 = 4", "gets 0 0 7 = 4", "gets 0 0 29 = 4");
    }

    private void payersGetUnitsWhereMostWasCutOff() {
        bounds.sentence("(cut, then one unit more each for those of which most was cut off)");
        // 0.5, 0.5 and 1; 0.25, 0.25 and 0.5; 0.75, 0.75 and 1.5.
        String spent = "act 0; spend 0 2 10; spend 0 4 10; spend 0 6 20";
        bounds.asks(ended(Run.of("voyage 1 2 2", spent)), "gets 0 0 2 = 1", "gets 0 0 4 = 0", "gets 0 0 6 = 1");
        bounds.asks(ended(Run.of("voyage 1 1 2", spent)), "gets 0 0 2 = 0", "gets 0 0 4 = 0", "gets 0 0 6 = 1");
        bounds.asks(ended(Run.of("voyage 1 3 2", spent)), "gets 0 0 2 = 1", "gets 0 0 4 = 1", "gets 0 0 6 = 1");
        // 0.4 and 1.6; 0.6 and 2.4.
        String uneven = "act 0; spend 0 2 1; spend 0 4 4";
        bounds.asks(ended(Run.of("voyage 1 2 2", uneven)), "gets 0 0 2 = 0", "gets 0 0 4 = 2");
        bounds.asks(ended(Run.of("voyage 1 3 2", uneven)), "gets 0 0 2 = 1", "gets 0 0 4 = 2");
    }

    private void largeExpensesAreGot() {
        bounds.sentence("GET what is made good .. (numbers whose product is past an int)");
        Run most = fullOfAll();
        bounds.asks(most, "gets 0 0 0 = 33334", "gets 0 0 9 = 33334", "gets 0 0 10 = 33333", "gets 0 0 29 = 33333");
        Run two = ended(Run.of("voyage 0 1000000 2", "act 0", "spend 0 1 1000000", "spend 0 2 999999"));
        // 500000.25 and 499999.75.
        bounds.asks(two, "gets 0 0 1 = 500000", "gets 0 0 2 = 500000");
    }

    private void balanceOfAnOwnerOfSeveral() {
        bounds.sentence("BALANCE of an owner: MADE GOOD and what the owner GETS, less what is BORNE");
        Run run = Run.of("voyage 0 40 2", "lot 0 0 20 20 1 20 0", "lot 0 1 20 20 1 0 0", "act 0", "give 0 1 10",
                "give 0 3 10", "spend 0 0 20");
        // 40, 20, 20 and 20 bear 50: half of each.
        bounds.asks(ended(run), "balance 0 0 = 0", "balance 0 1 = 0", "payments 0 = 0");
        // 40, 20, 20 and 20 bear 49: 19.6, and 9.8 of each other one.
        bounds.asks(ended(run.then("back 0", "spend 0 0 19")), "share 0 0 0 4 = 19", "share 0 0 1 4 = 10",
                "share 0 0 2 4 = 10", "share 0 0 3 4 = 10", "balance 0 0 = 0", "balance 0 1 = 0");
        bounds.asks(ended(run.then("back 0", "spend 0 1 20")), "balance 0 0 = -20", "balance 0 1 = 20");
    }

    private void balanceOfOneAlone() {
        bounds.sentence("BALANCE of an owner (who bears and gets all, or has no interest)");
        Run alone = ended(Run.of("voyage 4 10 2", "act 0", "spend 0 4 7", "give 0 0 3"));
        for (int owner = 0; owner < 30; owner++) {
            bounds.asks(alone, "balance 0 " + owner + " = 0");
        }
        Run other = ended(Run.of("voyage 4 10 2", "act 0", "spend 0 5 7", "give 0 0 3"));
        bounds.asks(other, "balance 0 4 = -7", "balance 0 5 = 7", "balance 0 6 = 0");
    }

    private void noPaymentsIfAllBalancesAre0() {
        bounds.sentence("PAYMENTS: as long as a BALANCE isn't 0");
        bounds.asks(ended(Run.of("voyage 4 10 2")), "payments 0 = 0", "payment 0 0 0 = -1");
        bounds.asks(ended(Run.of("voyage 4 10 2", "act 0")), "payments 0 = 0", "payment 0 0 0 = -1");
        bounds.asks(ended(Run.of("voyage 4 10 2", "act 0", "spend 0 4 7")), "payments 0 = 0", "payment 0 0 2 = -1");
        Run one = ended(Run.of("voyage 4 10 2", "act 0", "spend 0 5 1"));
        bounds.asks(one, "payments 0 = 1", "payment 0 0 0 = 4", "payment 0 0 1 = 5", "payment 0 0 2 = 1",
                "payment 0 1 0 = -1");
    }

    private void theLesserOwnerOfTheLeastPays() {
        bounds.sentence("of those with the least BALANCE the lesser owner pays");
        Run like = ended(Run.of("voyage 29 10 2", "lot 0 0 10 10 1 0 0", "lot 0 7 10 10 1 0 0", "act 0",
                "spend 0 5 15"));
        paid(like, "0 5 5", "7 5 5", "29 5 5");
        Run less = ended(Run.of("voyage 29 20 2", "lot 0 0 10 10 1 0 0", "act 0", "spend 0 5 15"));
        paid(less, "29 5 10", "0 5 5");
    }

    private void theLesserOwnerOfTheGreatestIsPaid() {
        bounds.sentence("pays that one with the greatest (of like ones the lesser owner)");
        Run like = ended(Run.of("voyage 5 90 2", "act 0", "spend 0 29 10", "spend 0 7 10", "spend 0 0 10"));
        paid(like, "5 0 10", "5 7 10", "5 29 10");
        Run more = ended(Run.of("voyage 5 90 2", "act 0", "spend 0 29 11", "spend 0 7 10", "spend 0 0 10"));
        paid(more, "5 29 11", "5 0 10", "5 7 10");
    }

    private void asMuchAsMakesOneOfBoth0() {
        bounds.sentence("pays .. as much as makes one of both 0");
        // -30 of 1 and of 2: 50 and 10 are due; then 60; then 30 and 30.
        String base = "voyage 1 30 2; lot 0 2 30 30 1 0 0; act 0; ";
        paid(ended(Run.of(base + "spend 0 5 50; spend 0 6 10")), "1 5 30", "2 5 20", "2 6 10");
        paid(ended(Run.of(base + "spend 0 5 60")), "1 5 30", "2 5 30");
        paid(ended(Run.of(base + "spend 0 5 30; spend 0 6 30")), "1 5 30", "2 6 30");
        paid(ended(Run.of(base + "spend 0 5 31; spend 0 6 29")), "1 5 30", "2 6 29", "2 5 1");
    }

    private void theMostPayments() {
        bounds.sentence("PAYMENTS (29 of them: each makes one balance 0, the last one two)");
        Run open = Run.of("voyage 0 1000 2", "act 0");
        for (int owner = 1; owner < 30; owner++) {
            open = open.then("spend 0 " + owner + " 1");
        }
        Run all = ended(open);
        bounds.asks(all, "payments 0 = 29", "payment 0 28 0 = 0", "payment 0 28 1 = 29", "payment 0 28 2 = 1");
        bounds.refused(all, "payment 0 29 0");
        bounds.asks(ended(open.then("spend 0 0 1")), "payments 0 = 29");
        Run payers = Run.of("voyage 0 10 2");
        for (int owner = 1; owner < 30; owner++) {
            payers = payers.then("lot 0 " + owner + " 10 10 1 0 0");
        }
        Run one = ended(payers.then("act 0", "spend 0 29 300"));
        bounds.asks(one, "payments 0 = 29", "payment 0 0 0 = 0", "payment 0 28 0 = 28", "payment 0 28 1 = 29",
                "payment 0 28 2 = 10");
        bounds.refused(one, "payment 0 29 0");
    }

    /** Ends a run of one act: what each interest bears. */
    private void borne(Run run, int... want) {
        for (int i = 0; i < want.length; i++) {
            bounds.asks(ended(run), "share 0 0 " + i + " 4 = " + want[i]);
        }
    }

    /** All payments of an ended run, each as "who whom how much". */
    private void paid(Run run, String... want) {
        bounds.asks(run, "payments 0 = " + want.length, "payment 0 " + want.length + " 0 = -1");
        for (int k = 0; k < want.length; k++) {
            String[] words = want[k].split(" ");
            for (int what = 0; what < 3; what++) {
                bounds.asks(run, "payment 0 " + k + " " + what + " = " + words[what]);
            }
        }
    }
}
