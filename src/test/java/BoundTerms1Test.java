/** The bound of use and part 1 of the terms: each sentence that names a boundary case, at its two sides. */
public final class BoundTerms1Test {
    private static final int MIN = Bounds.MIN;
    private static final int MAX = Bounds.MAX;

    private final Bounds bounds = new Bounds("BoundTerms1Test");

    public static void main(String[] args) {
        BoundTerms1Test test = new BoundTerms1Test();
        test.anEventIsThe512thCall();
        test.aQuestionIsThe512thCall();
        test.takingBackIsThe512thCall();
        test.ownersOfShips();
        test.ownersOfLots();
        test.ownersOfExpenses();
        test.ownersAskedFor();
        test.voyagesHaveNumbersAsTheyCome();
        test.portsAreTwoToTen();
        test.liesAtPort0AtFirst();
        test.isUnderWayToTheNextAndLiesThere();
        test.isEndedAtTheLastPortAlone();
        test.isEndedWhenLost();
        test.interestsHaveNumbersAsTheyCome();
        test.freightMoreThan0IsAnInterest();
        test.freightIsTheShipsOwners();
        test.leftIsTheWorthAtFirst();
        test.aLotIsForALaterPort();
        test.aLotIsAboardTillTheShipComesThere();
        test.aLotIsAboardTillTheShipIsLost();
        test.theShipIsAboardAlways();
        test.termsAre0To2();
        test.toldIsNotAboveWorth();
        test.takeNotMoreThanIsLeftOfTheShip();
        test.takeNotMoreThanIsLeftOfALot();
        test.takeOnlyFromWhatIsAboard();
        test.freightLosesCut();
        test.freightLosesByWhatWasLeft();
        test.freightLosesOfLargeNumbers();
        test.bounds.end();
    }

    private void anEventIsThe512thCall() {
        bounds.sentence("An object is used for at most 512 calls (an event)");
        Run spending = Run.of("voyage 0 1 2", "act 0").times(509, "spend 0 7 1");
        bounds.allowed(spending, "spend 0 7 1", 510);
        Run giving = Run.of("voyage 0 1000 2", "lot 0 1 1000 1000 1 0 0", "act 0").times(508, "give 0 1 1");
        bounds.allowed(giving, "give 0 1 1", 1);
        Run losing = Run.of("voyage 0 1000 2").times(510, "lose 0 0 1");
        bounds.allowed(losing, "lose 0 0 1", 1000 - 511);
        Run moving = Run.of("voyage 0 1000 2").times(508, "lose 0 0 1").then("move 0");
        bounds.allowed(moving.then("lose 0 0 1"), "move 0", 1);
        bounds.allowed(moving.then("lose 0 0 1"), "lost 0", 1);
        bounds.allowed(moving.then("lose 0 0 1"), "act 0", 0);
        bounds.allowed(losing, "lot 0 1 1 1 1 1 0", 1);
        bounds.allowed(Run.of().times(511, "count"), "voyage 29 1000000 10", 0);
    }

    private void aQuestionIsThe512thCall() {
        bounds.sentence("An object is used for at most 512 calls (a question)");
        Run spending = Run.of("voyage 0 1000 2", "act 0").times(509, "spend 0 7 1");
        bounds.asks(spending, "told 0 6 = 510", "sum 0 0 0 = 509", "interest 0 0 2 = 1000");
        Run ended = Run.of("voyage 0 1000 2", "act 0").times(507, "spend 0 7 1").then("move 0", "move 0");
        bounds.asks(ended, "told 0 6 = 510", "gets 0 0 7 = 507", "interest 0 0 8 = 493", "balance 0 7 = 507",
                "balance 0 0 = -507", "payments 0 = 1", "payment 0 0 2 = 507", "without 0 0 0 = 1000",
                "share 0 0 0 4 = 507", "count = 1");
    }

    private void takingBackIsThe512thCall() {
        bounds.sentence("An object is used for at most 512 calls (taking back)");
        Run half = Run.of("voyage 0 1000 2", "act 0").times(255, "give 0 0 1").times(254, "back 0");
        bounds.allowed(half, "back 0", 1);
        bounds.asks(half, "interest 0 0 2 = 999", "told 0 6 = 2");
        Run again = Run.of("voyage 0 1000 2");
        for (int k = 0; k < 255; k++) {
            again = again.then("lot 0 1 10 10 1 5 0", "back 0");
        }
        bounds.allowed(again, "lot 0 1 10 10 1 5 0", 1);
        bounds.refused(Run.of("voyage 0 1000 2").times(200, "back 0"), "back 0");
    }

    private void ownersOfShips() {
        bounds.sentence("OWNERS are 0 .. 29 (of ships)");
        Run none = Run.of("count");
        bounds.asks(bounds.allowed(none, "voyage 0 10 2", 0), "interest 0 0 0 = 0");
        bounds.asks(bounds.allowed(none, "voyage 29 10 2", 0), "interest 0 0 0 = 29");
        bounds.refused(none, "voyage -1 10 2", "voyage 30 10 2", "voyage " + MIN + " 10 2", "voyage " + MAX + " 10 2");
    }

    private void ownersOfLots() {
        bounds.sentence("OWNERS are 0 .. 29 (of lots)");
        Run lying = Run.of("voyage 5 100 3", "act 0", "spend 0 4 3");
        bounds.asks(bounds.allowed(lying, "lot 0 0 10 10 1 0 0", 1), "interest 0 1 0 = 0");
        bounds.asks(bounds.allowed(lying, "lot 0 29 10 10 1 0 0", 1), "interest 0 1 0 = 29");
        bounds.refused(lying, "lot 0 -1 10 10 1 0 0", "lot 0 30 10 10 1 0 0",
                "lot 0 " + MIN + " 10 10 1 0 0", "lot 0 " + MAX + " 10 10 1 0 0");
    }

    private void ownersOfExpenses() {
        bounds.sentence("OWNERS are 0 .. 29 (of expenses)");
        Run open = Run.of("voyage 5 100 3", "act 0", "spend 0 4 3");
        bounds.allowed(open, "spend 0 0 7", 7);
        bounds.allowed(open, "spend 0 29 8", 8);
        bounds.refused(open, "spend 0 -1 7", "spend 0 30 7", "spend 0 " + MIN + " 7", "spend 0 " + MAX + " 7");
    }

    private void ownersAskedFor() {
        bounds.sentence("OWNERS are 0 .. 29 (asked for)");
        Run ended = Run.of("voyage 5 100 2", "act 0", "spend 0 0 3", "spend 0 29 4", "move 0", "move 0");
        bounds.asks(ended, "gets 0 0 0 = 3", "gets 0 0 29 = 4", "balance 0 0 = 3", "balance 0 29 = 4",
                "balance 0 5 = -7");
        for (String wrong : new String[] {"-1", "30", "" + MIN, "" + MAX}) {
            bounds.refused(ended, "gets 0 0 " + wrong, "balance 0 " + wrong);
        }
    }

    private void voyagesHaveNumbersAsTheyCome() {
        bounds.sentence("VOYAGES have numbers as they come");
        Run run = Run.of("count");
        for (int v = 0; v < 6; v++) {
            bounds.refused(run, "told " + v + " 0");
            run = bounds.allowed(run, "voyage " + v + " " + (10 + v) + " 2", v);
            bounds.asks(run, "told " + v + " 0 = 0", "interest " + v + " 0 0 = " + v,
                    "interest " + v + " 0 1 = " + (10 + v), "interest 0 0 1 = 10");
        }
    }

    private void portsAreTwoToTen() {
        bounds.sentence("PORTS 0 .. n - 1 (n 2 .. 10)");
        Run none = Run.of("count");
        bounds.allowed(bounds.allowed(none, "voyage 0 1 2", 0), "lot 0 0 1 1 1 0 0", 1);
        bounds.refused(none.then("voyage 0 1 2"), "lot 0 0 1 1 2 0 0");
        bounds.allowed(bounds.allowed(none, "voyage 0 1 10", 0), "lot 0 0 1 1 9 0 0", 1);
        bounds.refused(none.then("voyage 0 1 10"), "lot 0 0 1 1 10 0 0");
        bounds.refused(none, "voyage 0 1 1", "voyage 0 1 0", "voyage 0 1 -1", "voyage 0 1 11",
                "voyage 0 1 " + MIN, "voyage 0 1 " + MAX);
    }

    private void liesAtPort0AtFirst() {
        bounds.sentence("it LIES at PORT 0 at first");
        for (int ports = 2; ports <= 10; ports += 8) {
            Run first = Run.of("voyage 0 1 " + ports);
            bounds.asks(first, "told 0 0 = 0", "told 0 1 = 0", "told 0 2 = 0");
        }
    }

    private void isUnderWayToTheNextAndLiesThere() {
        bounds.sentence("is UNDER WAY to the next one, LIES there, and so on");
        Run run = Run.of("voyage 0 1 10");
        for (int port = 0; port < 9; port++) {
            run = bounds.allowed(run, "move 0", port);
            bounds.asks(run, "told 0 0 = " + port, "told 0 1 = 1", "told 0 2 = 0");
            run = bounds.allowed(run, "move 0", port + 1);
            bounds.asks(run, "told 0 0 = " + (port + 1), "told 0 1 = 0", "told 0 2 = " + (port == 8 ? 1 : 0));
        }
    }

    private void isEndedAtTheLastPortAlone() {
        bounds.sentence("it is ENDED when it comes to the last one");
        for (int ports = 2; ports <= 10; ports++) {
            Run ahead = Run.of("voyage 0 1 " + ports).times(2 * (ports - 1) - 1, "move 0");
            bounds.asks(ahead, "told 0 2 = 0", "told 0 1 = 1", "payments 0 = -1", "interest 0 0 8 = -1");
            Run ended = bounds.allowed(ahead, "move 0", ports - 1);
            bounds.asks(ended, "told 0 2 = 1", "told 0 1 = 0", "payments 0 = 0", "interest 0 0 8 = 1");
            bounds.refused(ended, "move 0");
        }
    }

    private void isEndedWhenLost() {
        bounds.sentence("or is LOST (it is UNDER WAY no more then)");
        Run sailing = Run.of("voyage 0 8 3", "move 0");
        bounds.asks(sailing, "told 0 1 = 1", "told 0 2 = 0");
        Run lost = bounds.allowed(sailing, "lost 0", 1);
        bounds.asks(lost, "told 0 0 = 0", "told 0 1 = 0", "told 0 2 = 1", "payments 0 = 0");
        bounds.refused(lost, "move 0", "lost 0", "act 0", "lot 0 0 1 1 1 0 0", "lot 0 0 1 1 2 0 0");
        Run later = Run.of("voyage 0 8 3").times(3, "move 0").then("lost 0");
        bounds.asks(later, "told 0 0 = 1", "told 0 1 = 0", "told 0 2 = 1");
    }

    private void interestsHaveNumbersAsTheyCome() {
        bounds.sentence("INTERESTS of a VOYAGE have numbers as they come: 0 is the SHIP; a LOT is one");
        Run run = Run.of("voyage 6 100 2");
        bounds.asks(run, "told 0 3 = 1", "interest 0 0 1 = 100");
        bounds.refused(run, "interest 0 1 0");
        run = bounds.allowed(run, "lot 0 1 11 11 1 0 0", 1);
        run = bounds.allowed(run, "lot 0 2 12 12 1 5 0", 2);
        bounds.asks(run, "interest 0 2 1 = 12", "interest 0 3 1 = 5", "interest 0 3 5 = 2", "told 0 3 = 4");
        bounds.refused(run, "interest 0 4 0");
        bounds.allowed(run, "lot 0 3 13 13 1 0 0", 4);
        bounds.allowed(run.then("back 0"), "lot 0 3 13 13 1 0 0", 2);
    }

    private void freightMoreThan0IsAnInterest() {
        bounds.sentence("its FREIGHT, if it is more than 0, is the next one");
        Run lying = Run.of("voyage 6 100 2");
        Run without = bounds.allowed(lying, "lot 0 1 10 10 1 0 0", 1);
        bounds.asks(without, "told 0 3 = 2", "interest 0 1 5 = -1");
        bounds.refused(without, "interest 0 2 0", "interest 0 2 5");
        Run with = bounds.allowed(lying, "lot 0 1 10 10 1 1 0", 1);
        bounds.asks(with, "told 0 3 = 3", "interest 0 2 1 = 1", "interest 0 2 2 = 1", "interest 0 2 5 = 1");
        bounds.refused(with, "interest 0 3 0");
    }

    private void freightIsTheShipsOwners() {
        bounds.sentence("its FREIGHT .. (the SHIP's owner's)");
        bounds.asks(Run.of("voyage 29 100 2", "lot 0 0 10 10 1 5 0"), "interest 0 1 0 = 0", "interest 0 2 0 = 29");
        bounds.asks(Run.of("voyage 0 100 2", "lot 0 29 10 10 1 5 0"), "interest 0 1 0 = 29", "interest 0 2 0 = 0");
    }

    private void leftIsTheWorthAtFirst() {
        bounds.sentence("Each has LEFT what it is worth (its WORTH at first)");
        Run least = Run.of("voyage 0 1 2", "lot 0 1 1 1 1 1 0");
        Run most = Run.of("voyage 0 1000000 2", "lot 0 1 1000000 1 1 1000000 2");
        for (int i = 0; i < 3; i++) {
            bounds.asks(least, "interest 0 " + i + " 1 = 1", "interest 0 " + i + " 2 = 1");
            bounds.asks(most, "interest 0 " + i + " 1 = 1000000", "interest 0 " + i + " 2 = 1000000");
        }
    }

    private void aLotIsForALaterPort() {
        bounds.sentence("A LOT is loaded at the PORT where the SHIP LIES, for a later one");
        Run first = Run.of("voyage 0 9 4");
        bounds.refused(first, "lot 0 1 5 5 0 0 0", "lot 0 1 5 5 -1 0 0", "lot 0 1 5 5 4 0 0",
                "lot 0 1 5 5 " + MIN + " 0 0", "lot 0 1 5 5 " + MAX + " 0 0");
        bounds.asks(bounds.allowed(first, "lot 0 1 5 5 1 2 0", 1), "interest 0 1 4 = 1", "interest 0 2 4 = 1");
        bounds.asks(bounds.allowed(first, "lot 0 1 5 5 3 2 0", 1), "interest 0 1 4 = 3", "interest 0 2 4 = 3");
        Run lastButOne = first.times(4, "move 0");
        bounds.asks(lastButOne, "told 0 0 = 2", "told 0 1 = 0");
        bounds.refused(lastButOne, "lot 0 1 5 5 0 0 0", "lot 0 1 5 5 1 0 0", "lot 0 1 5 5 2 0 0",
                "lot 0 1 5 5 4 0 0");
        bounds.allowed(lastButOne, "lot 0 1 5 5 3 0 0", 1);
    }

    private void aLotIsAboardTillTheShipComesThere() {
        bounds.sentence("it is ABOARD till the SHIP comes there (it is delivered then); its FREIGHT as long as it");
        Run run = Run.of("voyage 0 9 4", "lot 0 1 5 5 1 3 0", "lot 0 2 6 6 2 4 0", "lot 0 3 7 7 3 2 0");
        for (int moves = 0; moves <= 6; moves++) {
            int port = moves / 2;
            for (int i = 1; i <= 6; i++) {
                int aim = (i + 1) / 2;
                bounds.asks(run.times(moves, "move 0"), "interest 0 " + i + " 3 = " + (port < aim ? 1 : 0));
            }
        }
        Run there = run.times(2, "move 0");
        bounds.asks(there, "interest 0 1 2 = 5", "interest 0 2 2 = 3");
        bounds.asks(there.then("back 0"), "interest 0 1 3 = 1", "interest 0 2 3 = 1");
    }

    private void aLotIsAboardTillTheShipIsLost() {
        bounds.sentence("it is ABOARD till the SHIP .. is LOST; its FREIGHT as long as it");
        Run run = Run.of("voyage 0 9 3", "lot 0 1 5 5 2 3 0", "move 0");
        bounds.asks(run, "interest 0 1 3 = 1", "interest 0 2 3 = 1");
        bounds.asks(run.then("lost 0"), "interest 0 1 3 = 0", "interest 0 2 3 = 0");
        bounds.asks(run.then("lost 0", "back 0"), "interest 0 1 3 = 1", "interest 0 2 3 = 1");
    }

    private void theShipIsAboardAlways() {
        bounds.sentence("The SHIP is ABOARD always");
        Run run = Run.of("voyage 0 9 3");
        for (int moves = 0; moves <= 4; moves++) {
            bounds.asks(run.times(moves, "move 0"), "interest 0 0 3 = 1");
        }
        bounds.asks(run.then("move 0", "lost 0"), "interest 0 0 3 = 1");
        bounds.asks(run.then("lose 0 0 9"), "interest 0 0 3 = 1", "interest 0 0 2 = 0");
    }

    private void termsAre0To2() {
        bounds.sentence("A LOT has TERMS: 0, 1, 2");
        Run lying = Run.of("voyage 0 9 3");
        for (int terms = 0; terms <= 2; terms++) {
            Run loaded = bounds.allowed(lying, "lot 0 1 5 5 1 4 " + terms, 1);
            bounds.asks(loaded, "interest 0 1 6 = " + terms, "interest 0 2 6 = 0");
        }
        bounds.refused(lying, "lot 0 1 5 5 1 4 -1", "lot 0 1 5 5 1 4 3", "lot 0 1 5 5 1 4 " + MIN,
                "lot 0 1 5 5 1 4 " + MAX);
    }

    private void toldIsNotAboveWorth() {
        bounds.sentence("a TOLD worth, not above its WORTH");
        Run lying = Run.of("voyage 0 9 3");
        bounds.asks(bounds.allowed(lying, "lot 0 1 5 5 1 0 0", 1), "interest 0 1 7 = 5");
        bounds.asks(bounds.allowed(lying, "lot 0 1 5 1 1 0 0", 1), "interest 0 1 7 = 1");
        bounds.asks(bounds.allowed(lying, "lot 0 1 1000000 1000000 1 0 0", 1), "interest 0 1 7 = 1000000");
        bounds.refused(lying, "lot 0 1 5 6 1 0 0", "lot 0 1 5 0 1 0 0", "lot 0 1 5 -1 1 0 0", "lot 0 1 1 2 1 0 0",
                "lot 0 1 1000000 1000001 1 0 0", "lot 0 1 5 " + MAX + " 1 0 0", "lot 0 1 5 " + MIN + " 1 0 0");
    }

    private void takeNotMoreThanIsLeftOfTheShip() {
        bounds.sentence("To TAKE n from an INTEREST (n not above what is LEFT) (the ship)");
        Run open = Run.of("voyage 0 9 3", "act 0");
        bounds.refused(open, "give 0 0 10", "lose 0 0 10", "give 0 0 0", "lose 0 0 0", "give 0 0 -1", "lose 0 0 -1");
        bounds.asks(bounds.allowed(open, "give 0 0 9", 9), "interest 0 0 2 = 0");
        bounds.asks(bounds.allowed(open, "lose 0 0 9", 0), "interest 0 0 2 = 0");
        Run less = open.then("give 0 0 4");
        bounds.refused(less, "give 0 0 6", "lose 0 0 6");
        bounds.allowed(less, "give 0 0 5", 5);
        bounds.allowed(less, "lose 0 0 5", 0);
        bounds.refused(less.then("give 0 0 5"), "give 0 0 1", "lose 0 0 1");
    }

    private void takeNotMoreThanIsLeftOfALot() {
        bounds.sentence("To TAKE n from an INTEREST (n not above what is LEFT) (a lot)");
        Run open = Run.of("voyage 0 9 3", "lot 0 1 7 7 2 5 0", "act 0");
        bounds.refused(open, "give 0 1 8", "lose 0 1 8", "give 0 1 " + MAX, "lose 0 1 " + MAX,
                "give 0 1 " + MIN, "lose 0 1 " + MIN);
        bounds.asks(bounds.allowed(open, "give 0 1 7", 7), "interest 0 1 2 = 0", "interest 0 2 2 = 0");
        bounds.asks(bounds.allowed(open, "lose 0 1 7", 0), "interest 0 1 2 = 0", "interest 0 2 2 = 0");
        Run one = open.then("give 0 1 6");
        bounds.asks(one, "interest 0 1 2 = 1");
        bounds.refused(one, "give 0 1 2", "lose 0 1 2");
        bounds.allowed(one, "give 0 1 1", 1);
        bounds.allowed(one, "lose 0 1 1", 0);
        bounds.refused(one.then("give 0 1 1"), "give 0 1 1", "lose 0 1 1");
    }

    private void takeOnlyFromWhatIsAboard() {
        bounds.sentence("To TAKE n from an INTEREST (ABOARD)");
        Run run = Run.of("voyage 0 9 3", "lot 0 1 7 7 1 5 0", "lot 0 2 6 6 2 0 0", "move 0");
        Run sailing = run.then("act 0");
        bounds.allowed(sailing, "give 0 1 1", 1);
        bounds.allowed(sailing, "lose 0 1 1", 6);
        Run there = run.then("move 0", "act 0");
        bounds.refused(there, "give 0 1 1", "lose 0 1 1");
        bounds.allowed(there, "give 0 3 1", 1);
        bounds.allowed(there, "lose 0 3 1", 5);
    }

    private void freightLosesCut() {
        bounds.sentence("its FREIGHT loses as well: what is LEFT of that times n, by what was LEFT of the LOT (cut)");
        Run half = Run.of("voyage 0 9 2", "lot 0 1 2 2 1 1 0", "act 0");
        bounds.asks(half.then("give 0 1 1"), "interest 0 2 2 = 1", "share 0 0 2 1 = 0");
        bounds.asks(half.then("lose 0 1 1"), "interest 0 2 2 = 1");
        bounds.asks(half.then("lose 0 1 2"), "interest 0 2 2 = 0");
        bounds.asks(half.then("lose 0 1 1", "lose 0 1 1"), "interest 0 2 2 = 0");
        Run whole = Run.of("voyage 0 9 2", "lot 0 1 2 2 1 2 0", "act 0");
        bounds.asks(whole.then("give 0 1 1"), "interest 0 2 2 = 1", "share 0 0 2 1 = 1");
        Run other = Run.of("voyage 0 9 2", "lot 0 1 2 2 1 2 0", "lot 0 2 2 2 1 2 0", "lose 0 0 9");
        bounds.asks(other, "interest 0 2 2 = 2");
        bounds.asks(other.then("lose 0 3 2"), "interest 0 2 2 = 2", "interest 0 4 2 = 0");
    }

    private void freightLosesByWhatWasLeft() {
        bounds.sentence("its FREIGHT loses .. by what was LEFT of the LOT, not by its WORTH");
        Run run = Run.of("voyage 0 9 2", "lot 0 1 4 4 1 4 0", "lose 0 1 2");
        bounds.asks(run, "interest 0 1 2 = 2", "interest 0 2 2 = 2");
        bounds.asks(run.then("lose 0 1 1"), "interest 0 2 2 = 1");
        bounds.asks(run.then("act 0", "give 0 1 1"), "interest 0 2 2 = 1", "share 0 0 2 1 = 1");
    }

    private void freightLosesOfLargeNumbers() {
        bounds.sentence("its FREIGHT loses .. (numbers whose product is past an int)");
        Run most = Run.of("voyage 0 9 2", "lot 0 1 1000000 1000000 1 1000000 0");
        bounds.asks(most.then("lose 0 1 999999"), "interest 0 2 2 = 1");
        bounds.asks(most.then("lose 0 1 1000000"), "interest 0 2 2 = 0");
        bounds.asks(most.then("lose 0 1 1"), "interest 0 2 2 = 999999");
        Run less = Run.of("voyage 0 9 2", "lot 0 1 1000000 1000000 1 999999 0");
        bounds.asks(less.then("lose 0 1 1"), "interest 0 2 2 = 999999");
        bounds.asks(less.then("lose 0 1 2"), "interest 0 2 2 = 999998");
        bounds.asks(less.then("lose 0 1 999999"), "interest 0 2 2 = 1");
    }
}
