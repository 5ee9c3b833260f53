/** Promises 11 to 19: each sentence that names a boundary case, at its two sides. */
public final class BoundQuestionsTest {
    private static final int MIN = Bounds.MIN;
    private static final int MAX = Bounds.MAX;
    private static final int[] NO_VOYAGES = {-1, 2, 6, MIN, MAX};
    private static final int[] NO_ACTS = {-1, 2, 12, MIN, MAX};
    private static final int[] NO_INTERESTS = {-1, 4, 81, MIN, MAX};
    private static final int[] NO_OWNERS = {-1, 30, MIN, MAX};
    /** Two acts; the second voyage lies in its port with an act of its own. */
    private static final Run AHEAD = Run.of("voyage 0 1000 3", "voyage 7 500 2", "act 1", "lot 0 1 300 300 2 100 0",
            "lot 0 2 600 600 2 0 0", "move 0", "act 0", "give 0 1 150", "spend 0 2 100", "move 0", "act 0",
            "spend 0 1 200", "move 0");
    /**
     * The second act: 1000, 150, 50 and 600 bear 200: 111.11, 16.67, 5.56 and 66.67.
     * The first act: 889, 283, 95 and 533 bear 300: 148.17, 47.17, 15.83 and 88.83.
     */
    private static final Run ENDED = AHEAD.then("move 0");
    private static final Run NONE_CAME = Run.of("count");

    private final Bounds bounds = new Bounds("BoundQuestionsTest");

    public static void main(String[] args) {
        BoundQuestionsTest test = new BoundQuestionsTest();
        test.promise11WhatIsTold();
        test.promise11Others();
        test.promise11ThePort();
        test.promise11TheOpenAct();
        test.promise11Events();
        test.promise12WhatIsTold();
        test.promise12Others();
        test.promise12NoneSuch();
        test.promise12ShipAndFreights();
        test.promise12HasInTheEnd();
        test.promise13WhatIsTold();
        test.promise13IfEnded();
        test.promise13NotAtRisk();
        test.promise13Others();
        test.promise13NoneSuch();
        test.promise14WhatIsTold();
        test.promise14IfEnded();
        test.promise14OthersAndNoneSuch();
        test.promise15OfAnEndedVoyage();
        test.promise15NoneSuch();
        test.promise16WithoutAnAct();
        test.promise16WithoutTheOnlyAct();
        test.promise16WithoutAnEmptyAct();
        test.promise16WhatExpensesAreThenMadeGood();
        test.promise16OneThatIsNotAtRisk();
        test.promise16NoneSuchOrNotEnded();
        test.promise17Balance();
        test.promise17NoneSuch();
        test.promise18Payments();
        test.promise18NoneSuch();
        test.promise19Payment();
        test.promise19OthersAndNoneSuch();
        test.questionsChangeNothing();
        test.bounds.end();
    }

    private void promise11WhatIsTold() {
        bounds.sentence("promise 11: 0 .. 6 of a VOYAGE");
        bounds.asksRow(Run.of("voyage 3 9 2"), "told 0", 0, 0, 0, 1, 0, -1, 0);
        bounds.asksRow(AHEAD, "told 0", 1, 1, 0, 4, 2, -1, 10);
        bounds.asksRow(AHEAD, "told 1", 0, 0, 0, 1, 1, 0, 1);
        bounds.asksRow(ENDED, "told 0", 2, 0, 1, 4, 2, -1, 11);
        bounds.asksRow(AHEAD.then("lost 0"), "told 0", 1, 0, 1, 4, 2, -1, 11);
    }

    private void promise11Others() {
        bounds.sentence("promise 11: NONE for others, or no such VOYAGE");
        bounds.asks(AHEAD, "told 0 0 = 1", "told 0 6 = 10", "told 1 0 = 0");
        bounds.refusedFor(AHEAD, "told 0 ?", -1, 7, 8, MIN, MAX);
        bounds.refusedFor(ENDED, "told 0 ?", -1, 7, 8, MIN, MAX);
        bounds.refusedFor(AHEAD, "told ? 0", NO_VOYAGES);
        bounds.refusedFor(NONE_CAME, "told ? 0", 0, -1, MIN, MAX);
    }

    private void promise11ThePort() {
        bounds.sentence("promise 11: 0 the PORT where it LIES, or from which it comes");
        Run run = Run.of("voyage 3 9 3");
        long[] ports = {0, 0, 1, 1, 2};
        for (int moves = 0; moves < ports.length; moves++) {
            bounds.asks(run.times(moves, "move 0"), "told 0 0 = " + ports[moves]);
        }
        bounds.asks(run.then("move 0", "lost 0"), "told 0 0 = 0");
        bounds.asks(run.times(3, "move 0").then("lost 0"), "told 0 0 = 1");
        bounds.asks(run.times(4, "move 0").then("back 0"), "told 0 0 = 1");
    }

    private void promise11TheOpenAct() {
        bounds.sentence("promise 11: 5 the ACT that is OPEN (NONE)");
        Run run = Run.of("voyage 3 9 3");
        bounds.asks(run, "told 0 5 = -1");
        bounds.asks(run.then("act 0"), "told 0 5 = 0");
        bounds.asks(run.then("act 0", "move 0"), "told 0 5 = -1");
        bounds.asks(run.times(12, "act 0"), "told 0 5 = 11");
        bounds.asks(run.times(12, "act 0").then("back 0"), "told 0 5 = 10");
        bounds.asks(run.then("act 0", "back 0"), "told 0 5 = -1");
    }

    private void promise11Events() {
        bounds.sentence("promise 11: 6 EVENTS");
        Run run = Run.of("voyage 3 9 3");
        bounds.asks(run, "told 0 6 = 0");
        bounds.asks(run.then("lot 0 1 5 5 1 2 0"), "told 0 6 = 1");
        bounds.asks(run.then("lot 0 1 5 5 0 2 0"), "told 0 6 = 0");
        bounds.asks(run.then("act 0", "give 0 0 1", "spend 0 1 1", "lose 0 0 1", "move 0", "lost 0"), "told 0 6 = 6");
        bounds.asks(run.then("act 0", "back 0"), "told 0 6 = 0");
        bounds.asks(run.then("back 0"), "told 0 6 = 0");
    }

    private void promise12WhatIsTold() {
        bounds.sentence("promise 12: 0 .. 8 of an INTEREST");
        bounds.asksRow(AHEAD, "interest 0 0", 0, 1000, 1000, 1, -1, -1, 0, 1000, -1);
        bounds.asksRow(AHEAD, "interest 0 1", 1, 300, 150, 1, 2, -1, 0, 300, -1);
        bounds.asksRow(AHEAD, "interest 0 2", 0, 100, 50, 1, 2, 1, 0, 100, -1);
        bounds.asksRow(ENDED, "interest 0 0", 0, 1000, 1000, 1, -1, -1, 0, 1000, 741);
        bounds.asksRow(ENDED, "interest 0 1", 1, 300, 150, 0, 2, -1, 0, 300, 236);
        bounds.asksRow(ENDED, "interest 0 2", 0, 100, 50, 0, 2, 1, 0, 100, 79);
        bounds.asksRow(ENDED, "interest 0 3", 2, 600, 600, 0, 2, -1, 0, 600, 444);
        bounds.asksRow(ENDED, "interest 1 0", 7, 500, 500, 1, -1, -1, 0, 500, -1);
    }

    private void promise12Others() {
        bounds.sentence("promise 12: NONE for others");
        for (int i = 0; i < 4; i++) {
            bounds.refusedFor(ENDED, "interest 0 " + i + " ?", -1, 9, 10, MIN, MAX);
        }
        bounds.refusedFor(AHEAD, "interest 0 0 ?", -1, 9, 10, MIN, MAX);
    }

    private void promise12NoneSuch() {
        bounds.sentence("promise 12: NONE .. if there is none such");
        bounds.asks(ENDED, "interest 0 3 0 = 2", "interest 1 0 0 = 7");
        bounds.refusedFor(ENDED, "interest 0 ? 0", NO_INTERESTS);
        bounds.refusedFor(ENDED, "interest 0 ? 8", NO_INTERESTS);
        bounds.refusedFor(ENDED, "interest ? 0 0", NO_VOYAGES);
        bounds.refused(ENDED, "interest 1 1 0");
        bounds.refusedFor(NONE_CAME, "interest ? 0 0", 0, -1, MIN, MAX);
    }

    private void promise12ShipAndFreights() {
        bounds.sentence("promise 12: 4 its PORT (NONE of the SHIP), 5 of a FREIGHT its LOT (NONE), 6, 7");
        Run run = Run.of("voyage 4 1000000 10", "lot 0 1 30 20 9 0 1", "lot 0 2 40 1 1 1000000 2",
                "lot 0 3 50 50 5 1 0");
        bounds.asksRow(run, "interest 0 0", 4, 1000000, 1000000, 1, -1, -1, 0, 1000000);
        bounds.asksRow(run, "interest 0 1", 1, 30, 30, 1, 9, -1, 1, 20);
        bounds.asksRow(run, "interest 0 2", 2, 40, 40, 1, 1, -1, 2, 1);
        bounds.asksRow(run, "interest 0 3", 4, 1000000, 1000000, 1, 1, 2, 0, 1000000);
        bounds.asksRow(run, "interest 0 5", 4, 1, 1, 1, 5, 4, 0, 1);
    }

    private void promise12HasInTheEnd() {
        bounds.sentence("promise 12: 8 what it HAS in the end (NONE as long as the VOYAGE isn't ENDED)");
        for (int i = 0; i < 4; i++) {
            bounds.refused(AHEAD, "interest 0 " + i + " 8");
            bounds.refused(ENDED.then("back 0"), "interest 0 " + i + " 8");
        }
        bounds.asks(ENDED, "interest 0 0 8 = 741", "interest 0 3 8 = 444");
        // All is lost but what is made good in the first act, and that is borne by those it is made good for.
        bounds.asks(AHEAD.then("lost 0"), "interest 0 0 8 = 0", "interest 0 1 8 = 0", "interest 0 2 8 = 0");
        bounds.refused(ENDED, "interest 1 0 8");
    }

    private void promise13WhatIsTold() {
        bounds.sentence("promise 13: 0 .. 4 of an INTEREST in an ACT");
        bounds.asksRow(ENDED, "share 0 0 0", 1, 0, 0, 889, 148);
        bounds.asksRow(ENDED, "share 0 0 1", 1, 150, 150, 283, 47);
        bounds.asksRow(ENDED, "share 0 0 2", 1, 50, 50, 95, 16);
        bounds.asksRow(ENDED, "share 0 0 3", 1, 0, 0, 533, 89);
        bounds.asksRow(ENDED, "share 0 1 0", 1, 0, 0, 1000, 111);
        bounds.asksRow(ENDED, "share 0 1 1", 1, 0, 0, 150, 17);
        bounds.asksRow(ENDED, "share 0 1 2", 1, 0, 0, 50, 5);
        bounds.asksRow(ENDED, "share 0 1 3", 1, 0, 0, 600, 67);
    }

    private void promise13IfEnded() {
        bounds.sentence("promise 13: if the VOYAGE is ENDED: 3 its PART, 4 what is BORNE");
        bounds.asks(AHEAD, "share 0 0 1 0 = 1", "share 0 0 1 1 = 150", "share 0 0 1 2 = 150");
        bounds.refusedFor(AHEAD, "share 0 0 1 ?", 3, 4);
        bounds.refusedFor(ENDED.then("back 0"), "share 0 0 1 ?", 3, 4);
        bounds.refusedFor(ENDED, "share 1 0 0 ?", 3, 4);
        bounds.asks(ENDED.then("back 0"), "share 0 0 1 2 = 150");
        bounds.asks(AHEAD.then("lost 0"), "share 0 0 1 3 = 150", "share 0 0 1 4 = 150", "share 0 0 0 3 = 0",
                "share 0 1 0 4 = 0");
    }

    private void promise13NotAtRisk() {
        bounds.sentence("promise 13: 4 what is BORNE (0 of one that isn't AT RISK)");
        Run run = Run.of("voyage 0 10 3", "lot 0 1 8 8 1 5 0", "lot 0 2 6 6 2 0 0", "lose 0 3 6", "move 0", "move 0",
                "act 0", "spend 0 9 5", "lot 0 3 7 7 2 4 0");
        for (int i : new int[] {1, 2, 3, 4, 5}) {
            bounds.asks(run, "share 0 0 " + i + " 0 = 0", "share 0 0 " + i + " 3 = -1");
            bounds.asksRow(run.times(2, "move 0"), "share 0 0 " + i, 0, 0, 0, 0, 0);
        }
        bounds.asksRow(run.times(2, "move 0"), "share 0 0 0", 1, 0, 0, 10, 5);
    }

    private void promise13Others() {
        bounds.sentence("promise 13: NONE for others");
        bounds.refusedFor(AHEAD, "share 0 0 0 ?", -1, 3, 4, 5, MIN, MAX);
        bounds.refusedFor(ENDED, "share 0 0 0 ?", -1, 5, 6, MIN, MAX);
        bounds.refusedFor(ENDED, "share 0 1 3 ?", -1, 5, 6, MIN, MAX);
    }

    private void promise13NoneSuch() {
        bounds.sentence("promise 13: NONE .. if there is none such");
        bounds.asks(ENDED, "share 0 1 3 0 = 1", "share 1 0 0 0 = 1");
        bounds.refusedFor(ENDED, "share 0 ? 0 0", NO_ACTS);
        bounds.refusedFor(ENDED, "share 0 0 ? 0", NO_INTERESTS);
        bounds.refusedFor(ENDED, "share ? 0 0 0", NO_VOYAGES);
        bounds.refused(ENDED, "share 1 1 0 0", "share 1 0 1 0");
        bounds.refusedFor(ENDED.then("move 1", "move 1"), "share 1 0 1 ?", 3, 4);
    }

    private void promise14WhatIsTold() {
        bounds.sentence("promise 14: 0 .. 4 of an ACT");
        bounds.asksRow(ENDED, "sum 0 0", 100, 200, 100, 300, 1800);
        bounds.asksRow(ENDED, "sum 0 1", 200, 0, 200, 200, 1800);
        bounds.asksRow(Run.of("voyage 0 9 2", "act 0", "move 0", "move 0"), "sum 0 0", 0, 0, 0, 0, 9);
        bounds.asksRow(Run.of("voyage 0 9 2", "lose 0 0 9", "act 0", "spend 0 1 5", "move 0", "move 0"), "sum 0 0",
                5, 0, 0, 0, 0);
    }

    private void promise14IfEnded() {
        bounds.sentence("promise 14: if the VOYAGE is ENDED: 2 EXPENSES made good, 3 the SUM, 4 all PARTS");
        bounds.asks(AHEAD, "sum 0 0 0 = 100", "sum 0 0 1 = 200");
        bounds.refusedFor(AHEAD, "sum 0 0 ?", 2, 3, 4);
        bounds.refusedFor(ENDED.then("back 0"), "sum 0 0 ?", 2, 3, 4);
        bounds.refusedFor(ENDED, "sum 1 0 ?", 2, 3, 4);
        bounds.asksRow(AHEAD.then("lost 0"), "sum 0 0", 100, 200, 0, 200, 200);
        bounds.asksRow(AHEAD.then("lost 0"), "sum 0 1", 200, 0, 0, 0, 0);
    }

    private void promise14OthersAndNoneSuch() {
        bounds.sentence("promise 14: NONE for others, or if there is none such");
        bounds.refusedFor(AHEAD, "sum 0 0 ?", -1, 5, MIN, MAX);
        bounds.refusedFor(ENDED, "sum 0 0 ?", -1, 5, MIN, MAX);
        bounds.asks(ENDED, "sum 0 1 0 = 200", "sum 1 0 0 = 0");
        bounds.refusedFor(ENDED, "sum 0 ? 0", NO_ACTS);
        bounds.refusedFor(ENDED, "sum ? 0 0", NO_VOYAGES);
        bounds.refused(ENDED, "sum 1 1 0");
    }

    private void promise15OfAnEndedVoyage() {
        bounds.sentence("promise 15: What an owner GETS for EXPENSES of an ACT of an ENDED VOYAGE");
        bounds.asks(ENDED, "gets 0 0 2 = 100", "gets 0 0 1 = 0", "gets 0 1 1 = 200", "gets 0 1 2 = 0",
                "gets 0 0 0 = 0", "gets 0 0 29 = 0");
        bounds.refused(AHEAD, "gets 0 0 2", "gets 0 0 0");
        bounds.refused(ENDED.then("back 0"), "gets 0 0 2");
        bounds.refused(ENDED, "gets 1 0 0");
        bounds.asks(AHEAD.then("lost 0"), "gets 0 0 2 = 0", "gets 0 1 1 = 0");
    }

    private void promise15NoneSuch() {
        bounds.sentence("promise 15: NONE if there is none such");
        bounds.asks(ENDED, "gets 0 1 0 = 0", "gets 0 1 29 = 0");
        bounds.refusedFor(ENDED, "gets 0 ? 2", NO_ACTS);
        bounds.refusedFor(ENDED, "gets 0 0 ?", NO_OWNERS);
        bounds.refusedFor(ENDED, "gets ? 0 2", NO_VOYAGES);
        bounds.refused(Run.of("voyage 0 9 2", "move 0", "move 0"), "gets 0 0 0");
    }

    private void promise16WithoutAnAct() {
        bounds.sentence("promise 16: if for an ACT nothing were MADE GOOD, no EXPENSES either");
        bounds.asksRow(ENDED, "without 0 0", 889, 133, 45, 533);
        // The first act alone: 1000, 300, 100 and 600 bear 300: 150, 45, 15 and 90.
        bounds.asksRow(ENDED, "without 0 1", 850, 255, 85, 510);
        bounds.asksRow(AHEAD.then("lost 0"), "without 0 0", 0, 0, 0, 0);
    }

    private void promise16WithoutTheOnlyAct() {
        bounds.sentence("promise 16: if for an ACT nothing were MADE GOOD (the only one: what is LEFT)");
        Run run = Run.of("voyage 0 10 2", "lot 0 1 10 10 1 10 0", "act 0", "give 0 1 4", "spend 0 5 3", "lose 0 1 1",
                "move 0", "move 0");
        bounds.asksRow(run, "without 0 0", 10, 5, 5);
        bounds.asks(run, "interest 0 0 2 = 10", "interest 0 1 2 = 5", "interest 0 2 2 = 5");
    }

    private void promise16WithoutAnEmptyAct() {
        bounds.sentence("promise 16: What an INTEREST would have (without an act in which nothing came)");
        Run run = Run.of("voyage 0 10 2", "lot 0 1 10 10 1 0 0", "act 0", "act 0", "spend 0 5 7", "act 0", "move 0",
                "move 0");
        bounds.asks(run, "interest 0 0 8 = 6", "interest 0 1 8 = 7");
        bounds.asksRow(run, "without 0 0", 6, 7);
        bounds.asksRow(run, "without 0 1", 10, 10);
        bounds.asksRow(run, "without 0 2", 6, 7);
    }

    private void promise16WhatExpensesAreThenMadeGood() {
        bounds.sentence("promise 16: What an INTEREST would have (and other acts' expenses)");
        Run run = Run.of("voyage 0 10 2", "act 0", "spend 0 1 6", "act 0", "spend 0 2 7", "move 0", "move 0");
        bounds.asks(run, "sum 0 1 2 = 7", "sum 0 0 2 = 3", "interest 0 0 8 = 0");
        bounds.asks(run, "without 0 0 0 = 3", "without 0 1 0 = 4");
        bounds.asks(run, "gets 0 0 1 = 3", "sum 0 0 2 = 3");
    }

    private void promise16OneThatIsNotAtRisk() {
        bounds.sentence("promise 16: What an INTEREST would have (one that isn't AT RISK)");
        Run run = Run.of("voyage 0 10 3", "act 0", "spend 0 5 4", "lot 0 1 8 8 2 0 0", "act 0", "spend 0 6 9", "move 0",
                "move 0", "move 0", "move 0");
        // The second act: 10 and 8 bear 9: 5 and 4. The first: the ship alone bears 4.
        bounds.asks(run, "interest 0 0 8 = 1", "interest 0 1 8 = 4");
        bounds.asksRow(run, "without 0 0", 5, 4);
        bounds.asksRow(run, "without 0 1", 6, 8);
    }

    private void promise16NoneSuchOrNotEnded() {
        bounds.sentence("promise 16: NONE if there is none such, or the VOYAGE isn't ENDED");
        bounds.refused(AHEAD, "without 0 0 0", "without 0 1 3");
        bounds.refused(ENDED.then("back 0"), "without 0 0 0");
        bounds.refused(ENDED, "without 1 0 0");
        bounds.asks(ENDED, "without 0 1 3 = 510");
        bounds.refusedFor(ENDED, "without 0 ? 0", NO_ACTS);
        bounds.refusedFor(ENDED, "without 0 0 ?", NO_INTERESTS);
        bounds.refusedFor(ENDED, "without ? 0 0", NO_VOYAGES);
        bounds.refused(Run.of("voyage 0 9 2", "move 0", "move 0"), "without 0 0 0");
    }

    private void promise17Balance() {
        bounds.sentence("promise 17: An owner's BALANCE in an ENDED VOYAGE");
        bounds.asksRow(ENDED, "balance 0", -230, 286, -56, 0);
        bounds.asks(ENDED, "balance 0 29 = 0", "balance 1 7 = 0");
        bounds.asksRow(AHEAD.then("lost 0"), "balance 0", 0, 0, 0, 0);
    }

    private void promise17NoneSuch() {
        bounds.sentence("promise 17: 0 if there is none such");
        Run own = Run.of("voyage 0 9 2", "act 0", "spend 0 29 4", "move 0", "move 0");
        bounds.asks(own, "balance 0 0 = -4", "balance 0 29 = 4");
        bounds.refusedFor(own, "balance 0 ?", NO_OWNERS);
        bounds.refusedFor(own, "balance ? 0", -1, 1, 6, MIN, MAX);
        bounds.refused(own.then("back 0"), "balance 0 0", "balance 0 29");
        bounds.refused(AHEAD, "balance 0 0", "balance 0 1");
        bounds.refusedFor(NONE_CAME, "balance ? 0", 0, -1, MIN, MAX);
    }

    private void promise18Payments() {
        bounds.sentence("promise 18: PAYMENTS of an ENDED VOYAGE");
        bounds.asks(ENDED, "payments 0 = 2");
        bounds.asks(AHEAD.then("lost 0"), "payments 0 = 0");
        bounds.asks(Run.of("voyage 0 9 2", "move 0", "move 0"), "payments 0 = 0");
    }

    private void promise18NoneSuch() {
        bounds.sentence("promise 18: NONE if there is none such");
        bounds.refused(AHEAD, "payments 0", "payments 1");
        bounds.refused(ENDED, "payments 1");
        bounds.refused(ENDED.then("back 0"), "payments 0");
        bounds.refusedFor(ENDED, "payments ?", NO_VOYAGES);
        bounds.refusedFor(NONE_CAME, "payments ?", 0, -1, MIN, MAX);
    }

    private void promise19Payment() {
        bounds.sentence("promise 19: Of PAYMENT k (from 0 on): 0 who pays, 1 whom, 2 how much");
        bounds.asksRow(ENDED, "payment 0 0", 0, 1, 230);
        bounds.asksRow(ENDED, "payment 0 1", 2, 1, 56);
    }

    private void promise19OthersAndNoneSuch() {
        bounds.sentence("promise 19: NONE for others, or if there is none such");
        bounds.refusedFor(ENDED, "payment 0 0 ?", -1, 3, MIN, MAX);
        bounds.refusedFor(ENDED, "payment 0 1 ?", -1, 3, MIN, MAX);
        bounds.refusedFor(ENDED, "payment 0 ? 0", -1, 2, 29, 30, MIN, MAX);
        bounds.refusedFor(ENDED, "payment ? 0 0", NO_VOYAGES);
        bounds.refused(ENDED, "payment 1 0 0");
        bounds.refused(AHEAD, "payment 0 0 0");
        bounds.refused(ENDED.then("back 0"), "payment 0 0 0", "payment 0 1 2");
        Run fewer = ENDED.then("back 0", "lost 0");
        bounds.refused(fewer, "payment 0 0 0", "payment 0 0 2");
        bounds.refused(Run.of("voyage 0 9 2", "move 0", "move 0"), "payment 0 0 0");
    }

    private void questionsChangeNothing() {
        bounds.sentence("questions change nothing");
        String[] questions = {"told 0 0", "told 0 6", "interest 0 1 8", "share 0 0 1 3", "share 0 1 0 4", "sum 0 0 4",
            "gets 0 0 2", "without 0 0 1", "without 0 1 0", "balance 0 1", "payments 0", "payment 0 0 2", "count"};
        for (String question : questions) {
            bounds.same(ENDED, question);
            bounds.same(AHEAD, question);
        }
    }
}
