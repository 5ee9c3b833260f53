/** For each promise of the document: ordinary inputs, the edges that it names, and wrong inputs. */
public final class PromisesTest {
    private static final int NONE = JettisonDesk.NONE;
    private static final int MIN = Integer.MIN_VALUE;
    private static final int MAX = Integer.MAX_VALUE;
    private static final int[] NO_VOYAGES = {-1, 1, 6, MIN, MAX};

    private final Due due = new Due("PromisesTest");

    public static void main(String[] args) {
        PromisesTest test = new PromisesTest();
        test.promise1();
        test.promise2();
        test.promise3();
        test.promise3Numbers();
        test.promise4();
        test.promise5();
        test.promise6();
        test.promise6Terms();
        test.promise6Freight();
        test.promise7();
        test.promise8();
        test.promise9();
        test.promise10();
        test.promise10Loading();
        test.promise10Acts();
        test.promise10Lost();
        test.promise11();
        test.promise12();
        test.promise13();
        test.promise13Units();
        test.promise13Several();
        test.promise14();
        test.promise15();
        test.promise16();
        test.promise17();
        test.promise18And19();
        test.promise20();
        test.manyOfAll();
        test.apart();
        test.due.end();
    }

    /** A desk with a voyage of three ports: ship 1000 of owner 0. */
    private static JettisonDesk desk() {
        JettisonDesk x = new JettisonDesk();
        x.voyage(0, 1000, 3);
        return x;
    }

    /** Moves on till the voyage is over. */
    private static void end(JettisonDesk x, int v) {
        for (int i = 0; i < 20 && x.told(v, 2) == 0; i++) {
            x.move(v);
        }
    }

    private void promise1() {
        due.part("promise 1");
        JettisonDesk x = new JettisonDesk();
        due.is("count()", x.count(), 0);
        for (int v : new int[] {0, 1, -1, MIN, MAX}) {
            due.is("lot", x.lot(v, 0, 1, 1, 1, 0, 0), NONE);
            due.is("move", x.move(v), NONE);
            due.is("act", x.act(v), NONE);
            due.is("give", x.give(v, 0, 1), NONE);
            due.is("spend", x.spend(v, 0, 1), NONE);
            due.is("lose", x.lose(v, 0, 1), NONE);
            due.is("lost", x.lost(v), false);
            due.is("back", x.back(v), false);
            due.is("told", x.told(v, 0), NONE);
            due.is("interest", x.interest(v, 0, 0), NONE);
            due.is("share", x.share(v, 0, 0, 0), NONE);
            due.is("sum", x.sum(v, 0, 0), NONE);
            due.is("gets", x.gets(v, 0, 0), NONE);
            due.is("without", x.without(v, 0, 0), NONE);
            due.is("balance", x.balance(v, 0), 0);
            due.is("payments", x.payments(v), NONE);
            due.is("payment", x.payment(v, 0, 0), NONE);
        }
        due.is("NONE", JettisonDesk.NONE, -1);
    }

    private void promise2() {
        due.part("promise 2");
        JettisonDesk x = new JettisonDesk();
        due.is("owner -1", x.voyage(-1, 1, 2), NONE);
        due.is("owner 30", x.voyage(30, 1, 2), NONE);
        due.is("owner MIN", x.voyage(MIN, 1, 2), NONE);
        due.is("owner MAX", x.voyage(MAX, 1, 2), NONE);
        due.is("worth 0", x.voyage(0, 0, 2), NONE);
        due.is("worth -1", x.voyage(0, -1, 2), NONE);
        due.is("worth 1000001", x.voyage(0, 1000001, 2), NONE);
        due.is("worth MAX", x.voyage(0, MAX, 2), NONE);
        due.is("ports 1", x.voyage(0, 1, 1), NONE);
        due.is("ports 0", x.voyage(0, 1, 0), NONE);
        due.is("ports 11", x.voyage(0, 1, 11), NONE);
        due.is("ports MIN", x.voyage(0, 1, MIN), NONE);
        due.is("count()", x.count(), 0);
        due.is("least of all", x.voyage(0, 1, 2), 0);
        due.is("most of all", x.voyage(29, 1000000, 10), 1);
        due.is("third", x.voyage(3, 30, 3), 2);
        due.is("fourth", x.voyage(3, 30, 3), 3);
        due.is("fifth", x.voyage(3, 30, 3), 4);
        due.is("refused between", x.voyage(30, 30, 3), NONE);
        due.is("sixth", x.voyage(3, 30, 3), 5);
        due.is("seventh", x.voyage(3, 30, 3), NONE);
        due.is("count()", x.count(), 6);
        due.is("owner of ship 1", x.interest(1, 0, 0), 29);
        due.is("worth of ship 1", x.interest(1, 0, 1), 1000000);
        due.is("left of ship 1", x.interest(1, 0, 2), 1000000);
        due.is("port of 1", x.told(1, 0), 0);
        due.is("under way", x.told(1, 1), 0);
        due.is("ended", x.told(0, 2), 0);
        due.is("interests", x.told(1, 3), 1);
        due.is("a coming voyage is no event", x.back(1), false);
        due.is("count()", x.count(), 6);
    }

    private void promise3() {
        due.part("promise 3");
        JettisonDesk x = desk();
        for (int v : NO_VOYAGES) {
            due.is("no voyage", x.lot(v, 1, 10, 10, 1, 0, 0), NONE);
        }
        due.is("owner -1", x.lot(0, -1, 10, 10, 1, 0, 0), NONE);
        due.is("owner 30", x.lot(0, 30, 10, 10, 1, 0, 0), NONE);
        due.is("worth 0", x.lot(0, 1, 0, 0, 1, 0, 0), NONE);
        due.is("worth 0, told 1", x.lot(0, 1, 0, 1, 1, 0, 0), NONE);
        due.is("worth 1000001", x.lot(0, 1, 1000001, 1, 1, 0, 0), NONE);
        due.is("told 0", x.lot(0, 1, 10, 0, 1, 0, 0), NONE);
        due.is("told above worth", x.lot(0, 1, 10, 11, 1, 0, 0), NONE);
        due.is("told MIN", x.lot(0, 1, 10, MIN, 1, 0, 0), NONE);
        due.is("port -1", x.lot(0, 1, 10, 10, -1, 0, 0), NONE);
        due.is("port where it lies", x.lot(0, 1, 10, 10, 0, 0, 0), NONE);
        due.is("port past the last", x.lot(0, 1, 10, 10, 3, 0, 0), NONE);
        due.is("port MAX", x.lot(0, 1, 10, 10, MAX, 0, 0), NONE);
        due.is("freight -1", x.lot(0, 1, 10, 10, 1, -1, 0), NONE);
        due.is("freight 1000001", x.lot(0, 1, 10, 10, 1, 1000001, 0), NONE);
        due.is("terms -1", x.lot(0, 1, 10, 10, 1, 0, -1), NONE);
        due.is("terms 3", x.lot(0, 1, 10, 10, 1, 0, 3), NONE);
        due.is("interests", x.told(0, 3), 1);
        due.is("events", x.told(0, 6), 0);
        due.is("least of all", x.lot(0, 0, 1, 1, 1, 0, 0), 1);
        due.is("most of all", x.lot(0, 29, 1000000, 1000000, 2, 1000000, 2), 2);
        due.is("behind a freight", x.lot(0, 1, 10, 10, 1, 1, 1), 4);
        due.is("interests", x.told(0, 3), 6);
        due.is("events", x.told(0, 6), 3);
        x.move(0);
        due.is("under way", x.lot(0, 1, 10, 10, 2, 0, 0), NONE);
        x.move(0);
        due.is("port 1 lies here", x.lot(0, 1, 10, 10, 1, 0, 0), NONE);
        due.is("port 0 is past", x.lot(0, 1, 10, 10, 0, 0, 0), NONE);
        due.is("at port 1", x.lot(0, 1, 10, 10, 2, 0, 0), 6);
        end(x, 0);
        due.is("ended", x.lot(0, 1, 10, 10, 2, 0, 0), NONE);
    }

    private void promise3Numbers() {
        due.part("promise 3, 40 lots");
        JettisonDesk x = desk();
        for (int i = 0; i < 40; i++) {
            due.is("lot " + i, x.lot(0, 1, 10, 10, 1, 5, 0), 1 + 2 * i);
        }
        due.is("a 41st", x.lot(0, 1, 10, 10, 1, 5, 0), NONE);
        due.is("a 41st without freight", x.lot(0, 1, 10, 10, 1, 0, 0), NONE);
        due.is("interests", x.told(0, 3), 81);
        due.is("back", x.back(0), true);
        due.is("interests", x.told(0, 3), 79);
        due.is("the 40th again", x.lot(0, 1, 10, 10, 1, 0, 0), 79);
        due.is("a 41st", x.lot(0, 1, 10, 10, 1, 0, 0), NONE);
        x.move(0);
        x.move(0);
        due.is("delivered lots count", x.lot(0, 1, 10, 10, 2, 0, 0), NONE);
    }

    private void promise4() {
        due.part("promise 4");
        JettisonDesk x = desk();
        for (int v : NO_VOYAGES) {
            due.is("no voyage", x.move(v), NONE);
        }
        due.is("sails from 0", x.move(0), 0);
        due.is("comes to 1", x.move(0), 1);
        due.is("not ended", x.told(0, 2), 0);
        due.is("sails from 1", x.move(0), 1);
        due.is("port", x.told(0, 0), 1);
        due.is("under way", x.told(0, 1), 1);
        due.is("comes to 2", x.move(0), 2);
        due.is("ended", x.told(0, 2), 1);
        due.is("port", x.told(0, 0), 2);
        due.is("under way", x.told(0, 1), 0);
        due.is("ended", x.move(0), NONE);
        due.is("events", x.told(0, 6), 4);
        JettisonDesk y = new JettisonDesk();
        y.voyage(0, 1, 10);
        for (int port = 0; port < 9; port++) {
            due.is("sails", y.move(0), port);
            due.is("comes", y.move(0), port + 1);
        }
        due.is("ended", y.move(0), NONE);
        JettisonDesk z = desk();
        z.act(0);
        z.move(0);
        due.is("sailing closes the act", z.told(0, 5), NONE);
        z.lost(0);
        due.is("lost", z.move(0), NONE);
    }

    private void promise5() {
        due.part("promise 5");
        JettisonDesk x = desk();
        for (int v : NO_VOYAGES) {
            due.is("no voyage", x.act(v), NONE);
        }
        for (int a = 0; a < 12; a++) {
            due.is("act " + a, x.act(0), a);
            due.is("open", x.told(0, 5), a);
        }
        due.is("a 13th", x.act(0), NONE);
        due.is("what is refused closes nothing", x.told(0, 5), 11);
        due.is("acts", x.told(0, 4), 12);
        due.is("back", x.back(0), true);
        due.is("open again", x.told(0, 5), 10);
        due.is("the 12th again", x.act(0), 11);
        end(x, 0);
        due.is("ended", x.act(0), NONE);
        JettisonDesk y = desk();
        y.move(0);
        due.is("under way", y.act(0), 0);
        y.lost(0);
        due.is("lost", y.act(0), NONE);
    }

    private void promise6() {
        due.part("promise 6");
        JettisonDesk x = desk();
        x.lot(0, 1, 300, 100, 1, 90, 0);
        x.lot(0, 2, 200, 200, 2, 0, 0);
        due.is("no act", x.give(0, 1, 10), NONE);
        x.act(0);
        for (int v : NO_VOYAGES) {
            due.is("no voyage", x.give(v, 1, 10), NONE);
        }
        due.is("interest -1", x.give(0, -1, 1), NONE);
        due.is("interest 4", x.give(0, 4, 1), NONE);
        due.is("interest MAX", x.give(0, MAX, 1), NONE);
        due.is("interest MIN", x.give(0, MIN, 1), NONE);
        due.is("a freight", x.give(0, 2, 1), NONE);
        due.is("n 0", x.give(0, 1, 0), NONE);
        due.is("n -1", x.give(0, 1, -1), NONE);
        due.is("n above left", x.give(0, 1, 301), NONE);
        due.is("n MAX", x.give(0, 0, MAX), NONE);
        due.is("events", x.told(0, 6), 3);
        due.is("of the ship", x.give(0, 0, 7), 7);
        due.is("told by worth, cut", x.give(0, 1, 2), 0);
        due.is("told by worth, cut", x.give(0, 1, 5), 1);
        due.is("they add up one by one", x.share(0, 0, 1, 2), 1);
        due.is("taken", x.share(0, 0, 1, 1), 7);
        due.is("left", x.interest(0, 1, 2), 293);
        due.is("ship left", x.interest(0, 0, 2), 993);
        due.is("all of one", x.give(0, 3, 200), 200);
        due.is("nothing left", x.give(0, 3, 1), NONE);
        due.is("all of the ship", x.give(0, 0, 993), 993);
        due.is("the act stays open", x.told(0, 5), 0);
        x.lose(0, 1, 1);
        due.is("closed by a loss", x.give(0, 1, 1), NONE);
        x.act(0);
        x.lot(0, 1, 1, 1, 1, 0, 0);
        due.is("closed by loading", x.give(0, 1, 1), NONE);
        x.move(0);
        x.move(0);
        x.act(0);
        due.is("delivered", x.give(0, 1, 1), NONE);
        end(x, 0);
        due.is("ended", x.give(0, 0, 1), NONE);
    }

    private void promise6Terms() {
        due.part("promise 6, terms");
        for (int terms = 1; terms <= 2; terms++) {
            JettisonDesk x = desk();
            x.lot(0, 1, 100, 100, 1, 50, terms);
            x.act(0);
            due.is("nothing made good", x.give(0, 1, 40), 0);
            due.is("taken", x.share(0, 0, 1, 1), 40);
            due.is("made good", x.share(0, 0, 1, 2), 0);
            due.is("freight taken", x.share(0, 0, 2, 1), 20);
            due.is("freight made good", x.share(0, 0, 2, 2), 0);
            due.is("freight left", x.interest(0, 2, 2), 30);
            due.is("back", x.back(0), true);
            due.is("made good", x.share(0, 0, 1, 2), 0);
            due.is("freight made good", x.share(0, 0, 2, 2), 0);
            due.is("freight left", x.interest(0, 2, 2), 50);
        }
    }

    private void promise6Freight() {
        due.part("promise 6, freight");
        JettisonDesk x = new JettisonDesk();
        x.voyage(4, 1000, 2);
        x.lot(0, 1, 1000000, 999999, 1, 1000000, 0);
        x.lot(0, 1, 3, 3, 1, 100, 0);
        x.act(0);
        due.is("large numbers", x.give(0, 1, 999999), 999998);
        due.is("its freight", x.interest(0, 2, 2), 1);
        due.is("the last of it", x.give(0, 1, 1), 0);
        due.is("its freight", x.interest(0, 2, 2), 0);
        due.is("freight made good", x.share(0, 0, 2, 2), 1000000);
        due.is("a third", x.give(0, 3, 1), 1);
        due.is("freight is cut", x.interest(0, 4, 2), 67);
        due.is("by what was left of the lot", x.give(0, 3, 1), 1);
        due.is("half of 67, cut", x.interest(0, 4, 2), 34);
        due.is("without freight", x.give(0, 3, 1), 1);
        due.is("all of it", x.interest(0, 4, 2), 0);
        due.is("freight made good", x.share(0, 0, 4, 2), 100);
        JettisonDesk y = new JettisonDesk();
        y.voyage(4, 1, 2);
        y.lot(0, 1, 1, 1, 1, 1, 0);
        y.act(0);
        for (int i = 0; i < 3; i++) {
            due.is("one unit is at risk", y.share(0, 0, i, 0), 1);
        }
        due.is("one unit of a lot", y.give(0, 1, 1), 1);
        due.is("its freight", y.share(0, 0, 2, 2), 1);
        due.is("one unit of the ship", y.give(0, 0, 1), 1);
    }

    private void promise7() {
        due.part("promise 7");
        JettisonDesk x = desk();
        due.is("no act", x.spend(0, 1, 10), NONE);
        x.act(0);
        for (int v : NO_VOYAGES) {
            due.is("no voyage", x.spend(v, 1, 10), NONE);
        }
        due.is("owner -1", x.spend(0, -1, 10), NONE);
        due.is("owner 30", x.spend(0, 30, 10), NONE);
        due.is("n 0", x.spend(0, 1, 0), NONE);
        due.is("n -1", x.spend(0, 1, -1), NONE);
        due.is("n MIN", x.spend(0, 1, MIN), NONE);
        due.is("n 1000001", x.spend(0, 1, 1000001), NONE);
        due.is("least", x.spend(0, 29, 1), 1);
        due.is("n MAX", x.spend(0, 29, MAX), NONE);
        due.is("n MIN", x.spend(0, 29, MIN), NONE);
        due.is("n -1", x.spend(0, 29, -1), NONE);
        due.is("adds up", x.spend(0, 29, 2), 3);
        due.is("n 0 behind others", x.spend(0, 29, 0), NONE);
        due.is("n -1 behind others", x.spend(0, 29, -1), NONE);
        due.is("another owner", x.spend(0, 0, 1000000), 1000000);
        due.is("to the bound", x.spend(0, 29, 999997), 1000000);
        due.is("past the bound", x.spend(0, 29, 1), NONE);
        due.is("all", x.sum(0, 0, 0), 2000000);
        due.is("the act stays open", x.told(0, 5), 0);
        x.act(0);
        due.is("in another act", x.spend(0, 29, 5), 5);
        x.move(0);
        due.is("closed", x.spend(0, 29, 5), NONE);
        due.is("events", x.told(0, 6), 8);
        x.act(0);
        end(x, 0);
        due.is("ended", x.spend(0, 29, 5), NONE);
    }

    private void promise8() {
        due.part("promise 8");
        JettisonDesk x = desk();
        x.lot(0, 1, 300, 100, 1, 91, 1);
        x.lot(0, 2, 200, 200, 2, 0, 0);
        for (int v : NO_VOYAGES) {
            due.is("no voyage", x.lose(v, 1, 10), NONE);
        }
        due.is("interest -1", x.lose(0, -1, 1), NONE);
        due.is("interest 4", x.lose(0, 4, 1), NONE);
        due.is("interest MAX", x.lose(0, MAX, 1), NONE);
        due.is("a freight", x.lose(0, 2, 1), NONE);
        due.is("n 0", x.lose(0, 1, 0), NONE);
        due.is("n MIN", x.lose(0, 1, MIN), NONE);
        due.is("n above left", x.lose(0, 1, 301), NONE);
        due.is("events", x.told(0, 6), 2);
        x.act(0);
        due.is("what is refused closes nothing", x.lose(0, 1, 301), NONE);
        due.is("open", x.told(0, 5), 0);
        due.is("what is left", x.lose(0, 1, 100), 200);
        due.is("closes the act", x.told(0, 5), NONE);
        due.is("freight loses too", x.interest(0, 2, 2), 61);
        due.is("nothing made good", x.share(0, 0, 1, 2), 0);
        due.is("no giving", x.share(0, 0, 1, 1), 0);
        due.is("freight, no giving", x.share(0, 0, 2, 1), 0);
        due.is("of the ship", x.lose(0, 0, 1000), 0);
        due.is("ship has nothing left", x.lose(0, 0, 1), NONE);
        due.is("not lost by that", x.told(0, 2), 0);
        x.move(0);
        due.is("under way", x.lose(0, 3, 50), 150);
        x.move(0);
        due.is("delivered", x.lose(0, 1, 1), NONE);
        due.is("still aboard", x.lose(0, 3, 149), 1);
        end(x, 0);
        due.is("ended", x.lose(0, 3, 1), NONE);
        due.is("nothing was lost of it", x.interest(0, 3, 2), 1);
    }

    private void promise9() {
        due.part("promise 9");
        JettisonDesk x = desk();
        x.lot(0, 1, 300, 100, 1, 90, 0);
        x.lot(0, 2, 200, 200, 2, 60, 0);
        for (int v : NO_VOYAGES) {
            due.is("no voyage", x.lost(v), false);
        }
        due.is("lies", x.lost(0), false);
        x.move(0);
        x.move(0);
        due.is("lies at 1", x.lost(0), false);
        x.move(0);
        due.is("under way", x.lost(0), true);
        due.is("ended", x.told(0, 2), 1);
        due.is("under way no more", x.told(0, 1), 0);
        due.is("the port from which it came", x.told(0, 0), 1);
        due.is("twice", x.lost(0), false);
        due.is("ship", x.interest(0, 0, 2), 0);
        due.is("the ship is aboard always", x.interest(0, 0, 3), 1);
        due.is("delivered ahead", x.interest(0, 1, 2), 300);
        due.is("its freight", x.interest(0, 2, 2), 90);
        due.is("aboard", x.interest(0, 3, 2), 0);
        due.is("its freight", x.interest(0, 4, 2), 0);
        due.is("no more aboard", x.interest(0, 3, 3), 0);
        due.is("nor its freight", x.interest(0, 4, 3), 0);
        due.is("has", x.interest(0, 1, 8), 300);
        due.is("events", x.told(0, 6), 6);
        JettisonDesk y = desk();
        end(y, 0);
        due.is("come to the last port", y.lost(0), false);
    }

    private void promise10() {
        due.part("promise 10");
        JettisonDesk x = desk();
        for (int v : NO_VOYAGES) {
            due.is("no voyage", x.back(v), false);
        }
        due.is("none came", x.back(0), false);
        x.move(0);
        due.is("sailing", x.back(0), true);
        due.is("lies", x.told(0, 1), 0);
        due.is("port", x.told(0, 0), 0);
        due.is("none left", x.back(0), false);
        x.lot(0, 1, 10, 10, 1, 0, 0);
        x.move(0);
        x.move(0);
        due.is("coming", x.back(0), true);
        due.is("under way", x.told(0, 1), 1);
        due.is("port", x.told(0, 0), 0);
        due.is("aboard again", x.interest(0, 1, 3), 1);
        due.is("comes again", x.move(0), 1);
        due.is("sails", x.move(0), 1);
        due.is("comes", x.move(0), 2);
        due.is("has", x.interest(0, 1, 8), 10);
        due.is("the last coming", x.back(0), true);
        due.is("not ended", x.told(0, 2), 0);
        due.is("has", x.interest(0, 1, 8), NONE);
        due.is("events", x.told(0, 6), 4);
        for (int i = 0; i < 4; i++) {
            due.is("all", x.back(0), true);
        }
        due.is("none left", x.back(0), false);
        due.is("interests", x.told(0, 3), 1);
        due.is("events", x.told(0, 6), 0);
    }

    private void promise10Loading() {
        due.part("promise 10, loading");
        JettisonDesk x = desk();
        x.act(0);
        x.lot(0, 1, 100, 100, 1, 50, 0);
        due.is("closed", x.told(0, 5), NONE);
        due.is("with freight", x.back(0), true);
        due.is("interests", x.told(0, 3), 1);
        due.is("none", x.interest(0, 1, 0), NONE);
        due.is("open again", x.told(0, 5), 0);
        due.is("without freight", x.lot(0, 2, 100, 100, 1, 0, 0), 1);
        due.is("with freight", x.lot(0, 3, 100, 100, 1, 7, 2), 2);
        due.is("back", x.back(0), true);
        due.is("interests", x.told(0, 3), 2);
        due.is("with another owner", x.lot(0, 4, 90, 80, 2, 0, 1), 2);
        due.is("owner", x.interest(0, 2, 0), 4);
        due.is("worth", x.interest(0, 2, 1), 90);
        due.is("back", x.back(0), true);
        due.is("back", x.back(0), true);
        due.is("interests", x.told(0, 3), 1);
    }

    private void promise10Acts() {
        due.part("promise 10, acts");
        JettisonDesk x = desk();
        x.lot(0, 1, 7, 5, 1, 100, 0);
        x.act(0);
        x.give(0, 1, 2);
        x.give(0, 1, 3);
        x.spend(0, 9, 4);
        x.spend(0, 9, 5);
        due.is("an expense", x.back(0), true);
        due.is("spent", x.sum(0, 0, 0), 4);
        due.is("spends again", x.spend(0, 9, 6), 10);
        x.back(0);
        x.back(0);
        due.is("spent", x.sum(0, 0, 0), 0);
        due.is("left", x.interest(0, 1, 2), 2);
        due.is("freight left", x.interest(0, 2, 2), 29);
        due.is("a giving", x.back(0), true);
        due.is("left", x.interest(0, 1, 2), 5);
        due.is("freight left", x.interest(0, 2, 2), 72);
        due.is("taken", x.share(0, 0, 1, 1), 2);
        due.is("made good", x.share(0, 0, 1, 2), 1);
        due.is("freight taken", x.share(0, 0, 2, 1), 28);
        due.is("all made good", x.sum(0, 0, 1), 29);
        due.is("open", x.told(0, 5), 0);
        x.lose(0, 1, 5);
        due.is("freight left", x.interest(0, 2, 2), 0);
        x.act(0);
        due.is("not at risk", x.share(0, 1, 1, 0), 0);
        due.is("an act", x.back(0), true);
        due.is("acts", x.told(0, 4), 1);
        due.is("none such", x.share(0, 1, 1, 0), NONE);
        due.is("none open", x.told(0, 5), NONE);
        due.is("a loss", x.back(0), true);
        due.is("left", x.interest(0, 1, 2), 5);
        due.is("freight left", x.interest(0, 2, 2), 72);
        due.is("open again", x.told(0, 5), 0);
        due.is("gives again", x.give(0, 1, 5), 3);
        x.back(0);
        x.back(0);
        x.back(0);
        due.is("none left of the act", x.act(0), 0);
        due.is("taken", x.share(0, 0, 1, 1), 0);
        due.is("made good", x.sum(0, 0, 1), 0);
    }

    private void promise10Lost() {
        due.part("promise 10, lost");
        JettisonDesk x = desk();
        x.lot(0, 1, 300, 100, 1, 90, 0);
        x.lot(0, 2, 200, 200, 2, 60, 0);
        x.lose(0, 1, 30);
        x.move(0);
        x.move(0);
        x.move(0);
        x.act(0);
        x.give(0, 3, 50);
        x.lost(0);
        due.is("balance", x.balance(0, 2), 0);
        due.is("lost", x.back(0), true);
        due.is("ended", x.told(0, 2), 0);
        due.is("under way", x.told(0, 1), 1);
        due.is("port", x.told(0, 0), 1);
        due.is("open", x.told(0, 5), 0);
        due.is("ship", x.interest(0, 0, 2), 1000);
        due.is("delivered", x.interest(0, 1, 2), 270);
        due.is("its freight", x.interest(0, 2, 2), 81);
        due.is("aboard", x.interest(0, 3, 2), 150);
        due.is("its freight", x.interest(0, 4, 2), 45);
        due.is("aboard", x.interest(0, 3, 3), 1);
        due.is("comes after all", x.move(0), 2);
        due.is("has", x.interest(0, 1, 8), 270);
        due.is("sum", x.sum(0, 0, 3), 65);
    }

    private void promise11() {
        due.part("promise 11");
        JettisonDesk x = desk();
        for (int v : NO_VOYAGES) {
            due.is("no voyage", x.told(v, 0), NONE);
        }
        for (int what : new int[] {-1, 7, 8, MIN, MAX}) {
            due.is("told of " + what, x.told(0, what), NONE);
        }
        x.lot(0, 1, 300, 100, 1, 90, 0);
        x.act(0);
        due.is("none open at first", desk().told(0, 5), NONE);
        int[] first = {0, 0, 0, 3, 1, 0, 2};
        for (int what = 0; what < first.length; what++) {
            due.is("lying, " + what, x.told(0, what), first[what]);
        }
        x.move(0);
        int[] second = {0, 1, 0, 3, 1, NONE, 3};
        for (int what = 0; what < second.length; what++) {
            due.is("under way, " + what, x.told(0, what), second[what]);
        }
        end(x, 0);
        int[] third = {2, 0, 1, 3, 1, NONE, 6};
        for (int what = 0; what < third.length; what++) {
            due.is("ended, " + what, x.told(0, what), third[what]);
        }
    }

    private void promise12() {
        due.part("promise 12");
        JettisonDesk x = new JettisonDesk();
        x.voyage(7, 1000, 3);
        x.lot(0, 1, 300, 100, 1, 90, 2);
        x.lot(0, 2, 500, 500, 2, 0, 1);
        for (int v : NO_VOYAGES) {
            due.is("no voyage", x.interest(v, 0, 0), NONE);
        }
        for (int i : new int[] {-1, 4, 81, MIN, MAX}) {
            due.is("no interest", x.interest(0, i, 0), NONE);
        }
        for (int what : new int[] {-1, 9, 10, MIN, MAX}) {
            due.is("of others", x.interest(0, 0, what), NONE);
        }
        x.lose(0, 1, 30);
        x.move(0);
        x.move(0);
        int[][] want = {
            {7, 1000, 1000, 1, NONE, NONE, 0, 1000, NONE},
            {1, 300, 270, 0, 1, NONE, 2, 100, NONE},
            {7, 90, 81, 0, 1, 1, 0, 90, NONE},
            {2, 500, 500, 1, 2, NONE, 1, 500, NONE}};
        for (int i = 0; i < want.length; i++) {
            for (int what = 0; what < want[i].length; what++) {
                due.is("interest " + i + ", " + what, x.interest(0, i, what), want[i][what]);
            }
        }
        end(x, 0);
        int[] has = {1000, 270, 81, 500};
        for (int i = 0; i < has.length; i++) {
            due.is("has " + i, x.interest(0, i, 8), has[i]);
            due.is("aboard " + i, x.interest(0, i, 3), i == 0 ? 1 : 0);
        }
    }

    private void promise13() {
        due.part("promise 13");
        JettisonDesk x = desk();
        x.lot(0, 1, 300, 300, 1, 0, 0);
        x.lot(0, 2, 200, 200, 2, 40, 0);
        x.lose(0, 1, 300);
        x.act(0);
        x.give(0, 2, 50);
        x.lot(0, 3, 100, 100, 2, 0, 0);
        for (int v : NO_VOYAGES) {
            due.is("no voyage", x.share(v, 0, 0, 0), NONE);
        }
        for (int wrong : new int[] {-1, 1, 12, MIN, MAX}) {
            due.is("no act", x.share(0, wrong, 0, 0), NONE);
        }
        for (int wrong : new int[] {-1, 5, 81, MIN, MAX}) {
            due.is("no interest", x.share(0, 0, wrong, 0), NONE);
        }
        for (int wrong : new int[] {-1, 3, 4, 5, MIN, MAX}) {
            due.is("of others, not ended", x.share(0, 0, 0, wrong), NONE);
        }
        int[] atRisk = {1, 0, 1, 1, 0};
        int[] taken = {0, 0, 50, 10, 0};
        for (int i = 0; i < atRisk.length; i++) {
            due.is("at risk " + i, x.share(0, 0, i, 0), atRisk[i]);
            due.is("taken " + i, x.share(0, 0, i, 1), taken[i]);
            due.is("made good " + i, x.share(0, 0, i, 2), taken[i]);
        }
        end(x, 0);
        int[] part = {1000, 0, 200, 40, 0};
        // 60 times the part by 1240: 48.39, 9.68 and 1.94: 9 and 1 get a unit more.
        int[] borne = {48, 0, 10, 2, 0};
        for (int i = 0; i < part.length; i++) {
            due.is("at risk " + i, x.share(0, 0, i, 0), atRisk[i]);
            due.is("part " + i, x.share(0, 0, i, 3), part[i]);
            due.is("borne " + i, x.share(0, 0, i, 4), borne[i]);
            due.is("of others", x.share(0, 0, i, 5), NONE);
        }
        JettisonDesk y = desk();
        y.lot(0, 1, 300, 300, 1, 10, 0);
        y.lot(0, 1, 300, 300, 2, 10, 0);
        y.move(0);
        y.move(0);
        y.lose(0, 0, 1000);
        y.act(0);
        int[] later = {0, 0, 0, 1, 1};
        for (int i = 0; i < later.length; i++) {
            due.is("at risk later " + i, y.share(0, 0, i, 0), later[i]);
        }
    }

    private void promise13Units() {
        due.part("promise 13, units of like ones");
        JettisonDesk x = new JettisonDesk();
        x.voyage(0, 10, 2);
        x.lot(0, 1, 10, 10, 1, 0, 0);
        x.lot(0, 2, 10, 10, 1, 0, 0);
        x.lot(0, 3, 10, 10, 1, 0, 0);
        x.act(0);
        x.spend(0, 5, 6);
        end(x, 0);
        int[] borne = {2, 2, 1, 1};
        for (int i = 0; i < borne.length; i++) {
            due.is("borne " + i, x.share(0, 0, i, 4), borne[i]);
            due.is("has " + i, x.interest(0, i, 8), 10 - borne[i]);
        }
        JettisonDesk y = new JettisonDesk();
        y.voyage(0, 1, 2);
        y.lot(0, 1, 1, 1, 1, 0, 0);
        y.lot(0, 2, 2, 2, 1, 0, 0);
        y.act(0);
        y.spend(0, 5, 1);
        end(y, 0);
        due.is("of the third most was cut off", y.share(0, 0, 2, 4), 1);
        due.is("none", y.share(0, 0, 0, 4), 0);
        JettisonDesk z = new JettisonDesk();
        z.voyage(0, 1000000, 2);
        for (int i = 0; i < 40; i++) {
            z.lot(0, i % 30, 1000000, 1000000, 1, 1000000, 0);
        }
        z.act(0);
        for (int i = 1; i < 81; i += 2) {
            z.give(0, i, 1000000);
        }
        for (int owner = 0; owner < 30; owner++) {
            z.spend(0, owner, 1000000);
        }
        end(z, 0);
        due.is("all expenses", z.sum(0, 0, 0), 30000000);
        due.is("the ship alone has something", z.sum(0, 0, 2), 1000000);
        due.is("sum", z.sum(0, 0, 3), 81000000);
        due.is("parts", z.sum(0, 0, 4), 81000000);
        due.is("part", z.share(0, 0, 80, 3), 1000000);
        due.is("borne", z.share(0, 0, 80, 4), 1000000);
        due.is("gets: a third less", z.gets(0, 0, 10), 33333);
        due.is("gets: a unit more", z.gets(0, 0, 9), 33334);
    }

    private void promise13Several() {
        due.part("promise 13, several acts");
        JettisonDesk x = desk();
        x.lot(0, 1, 500, 500, 2, 0, 0);
        x.act(0);
        x.give(0, 1, 100);
        x.act(0);
        x.give(0, 1, 400);
        x.act(0);
        due.is("nothing left", x.share(0, 2, 1, 0), 0);
        x.spend(0, 2, 200);
        end(x, 0);
        due.is("the ship bears the third alone", x.share(0, 2, 0, 4), 200);
        due.is("part in the second", x.share(0, 1, 0, 3), 800);
        due.is("part in the second", x.share(0, 1, 1, 3), 400);
        due.is("borne: 266.67", x.share(0, 1, 0, 4), 267);
        due.is("borne: 133.33", x.share(0, 1, 1, 4), 133);
        due.is("part in the first", x.share(0, 0, 0, 3), 533);
        due.is("part in the first", x.share(0, 0, 1, 3), 367);
        due.is("borne: 59.22", x.share(0, 0, 0, 4), 59);
        due.is("borne: 40.78", x.share(0, 0, 1, 4), 41);
        due.is("has", x.interest(0, 0, 8), 474);
        due.is("has", x.interest(0, 1, 8), 326);
        JettisonDesk y = desk();
        y.move(0);
        y.act(0);
        y.spend(0, 3, 100);
        y.lost(0);
        due.is("nobody has anything", y.sum(0, 0, 2), 0);
        due.is("no parts", y.sum(0, 0, 4), 0);
        due.is("borne", y.share(0, 0, 0, 4), 0);
        due.is("gets", y.gets(0, 0, 3), 0);
        due.is("payments", y.payments(0), 0);
    }

    private void promise14() {
        due.part("promise 14");
        JettisonDesk x = desk();
        x.lot(0, 1, 300, 150, 1, 90, 0);
        x.lot(0, 2, 100, 100, 1, 0, 1);
        x.act(0);
        x.give(0, 1, 100);
        x.give(0, 2, 0);
        x.give(0, 3, 50);
        x.spend(0, 4, 30);
        x.spend(0, 5, 20);
        for (int v : NO_VOYAGES) {
            due.is("no voyage", x.sum(v, 0, 0), NONE);
        }
        for (int wrong : new int[] {-1, 1, 12, MIN, MAX}) {
            due.is("no act", x.sum(0, wrong, 0), NONE);
        }
        for (int wrong : new int[] {-1, 2, 3, 4, 5, MIN, MAX}) {
            due.is("of others, not ended", x.sum(0, 0, wrong), NONE);
        }
        due.is("expenses", x.sum(0, 0, 0), 50);
        due.is("made good", x.sum(0, 0, 1), 80);
        end(x, 0);
        int[] want = {50, 80, 50, 130, 1000 + 250 + 90 + 50, NONE};
        for (int what = 0; what < want.length; what++) {
            due.is("sum " + what, x.sum(0, 0, what), want[what]);
        }
        JettisonDesk y = new JettisonDesk();
        y.voyage(0, 10, 2);
        y.lot(0, 1, 50, 50, 1, 0, 0);
        y.act(0);
        y.give(0, 1, 50);
        y.spend(0, 2, 11);
        end(y, 0);
        due.is("not more than they have, without what is made good", y.sum(0, 0, 2), 10);
        due.is("sum", y.sum(0, 0, 3), 60);
        due.is("has", y.interest(0, 1, 8), 0);
    }

    private void promise15() {
        due.part("promise 15");
        JettisonDesk x = new JettisonDesk();
        x.voyage(0, 10, 2);
        x.act(0);
        x.spend(0, 7, 10);
        x.spend(0, 3, 10);
        x.spend(0, 29, 10);
        x.act(0);
        due.is("not ended", x.gets(0, 0, 7), NONE);
        end(x, 0);
        for (int v : NO_VOYAGES) {
            due.is("no voyage", x.gets(v, 0, 7), NONE);
        }
        for (int wrong : new int[] {-1, 2, 12, MIN, MAX}) {
            due.is("no act", x.gets(0, wrong, 7), NONE);
        }
        for (int wrong : new int[] {-1, 30, MIN, MAX}) {
            due.is("no owner", x.gets(0, 0, wrong), NONE);
        }
        due.is("a unit more for the lesser owner", x.gets(0, 0, 3), 4);
        due.is("cut", x.gets(0, 0, 7), 3);
        due.is("cut", x.gets(0, 0, 29), 3);
        due.is("spent nothing", x.gets(0, 0, 0), 0);
        due.is("an act without expenses", x.gets(0, 1, 3), 0);
        JettisonDesk y = desk();
        y.move(0);
        y.move(0);
        y.move(0);
        y.act(0);
        y.spend(0, 7, 10);
        y.move(0);
        due.is("all of it", y.gets(0, 0, 7), 10);
        y.back(0);
        due.is("no more ended", y.gets(0, 0, 7), NONE);
        y.back(0);
        y.move(0);
        due.is("the expense was taken back", y.gets(0, 0, 7), 0);
        due.is("the balance too", y.balance(0, 7), 0);
    }

    private void promise16() {
        due.part("promise 16");
        JettisonDesk x = desk();
        x.lot(0, 1, 500, 500, 2, 0, 0);
        x.act(0);
        x.give(0, 1, 100);
        x.act(0);
        x.give(0, 1, 400);
        x.act(0);
        x.spend(0, 2, 200);
        due.is("not ended", x.without(0, 0, 0), NONE);
        end(x, 0);
        for (int v : NO_VOYAGES) {
            due.is("no voyage", x.without(v, 0, 0), NONE);
        }
        for (int wrong : new int[] {-1, 3, 12, MIN, MAX}) {
            due.is("no act", x.without(0, wrong, 0), NONE);
        }
        for (int wrong : new int[] {-1, 2, 81, MIN, MAX}) {
            due.is("no interest", x.without(0, 0, wrong), NONE);
        }
        due.is("without the first", x.without(0, 0, 0), 533);
        due.is("without the first", x.without(0, 0, 1), 267);
        // The ship alone goes into the first act, with 800, and bears 100 * 800 / 900.
        due.is("without the second", x.without(0, 1, 0), 711);
        due.is("without the second", x.without(0, 1, 1), 89);
        // 1000 and 400: 285.71 and 114.29; then 714 and 386: 64.91 and 35.09.
        due.is("without the third", x.without(0, 2, 0), 649);
        due.is("without the third", x.without(0, 2, 1), 351);
        due.is("what has been stays", x.interest(0, 0, 8), 474);
        due.is("what has been stays", x.share(0, 1, 0, 4), 267);
        due.is("what has been stays", x.sum(0, 2, 2), 200);
        due.is("what has been stays", x.gets(0, 2, 2), 200);
        due.is("what has been stays", x.balance(0, 2), 200);
    }

    private void promise17() {
        due.part("promise 17");
        JettisonDesk x = desk();
        x.lot(0, 1, 300, 300, 2, 100, 0);
        x.lot(0, 2, 600, 600, 2, 0, 0);
        x.move(0);
        x.act(0);
        x.give(0, 1, 150);
        x.spend(0, 2, 100);
        due.is("not ended", x.balance(0, 1), 0);
        x.move(0);
        x.act(0);
        x.spend(0, 1, 200);
        x.move(0);
        x.move(0);
        // The second act: 1000, 150, 50 and 600 bear 200: 111.11, 16.67, 5.56 and 66.67.
        due.is("borne", x.share(0, 1, 0, 4), 111);
        due.is("borne", x.share(0, 1, 1, 4), 17);
        due.is("borne", x.share(0, 1, 2, 4), 5);
        due.is("borne", x.share(0, 1, 3, 4), 67);
        // The first act: 889, 283, 95 and 533 bear 300: 148.17, 47.17, 15.83 and 88.83.
        due.is("borne", x.share(0, 0, 0, 4), 148);
        due.is("borne", x.share(0, 0, 1, 4), 47);
        due.is("borne", x.share(0, 0, 2, 4), 16);
        due.is("borne", x.share(0, 0, 3, 4), 89);
        due.is("ship and freight", x.balance(0, 0), 50 - 111 - 5 - 148 - 16);
        due.is("owner 1", x.balance(0, 1), 150 + 200 - 17 - 47);
        due.is("owner 2", x.balance(0, 2), 100 - 67 - 89);
        due.is("owner 3", x.balance(0, 3), 0);
        for (int v : NO_VOYAGES) {
            due.is("no voyage", x.balance(v, 1), 0);
        }
        for (int wrong : new int[] {-1, 30, MIN, MAX}) {
            due.is("no owner", x.balance(0, wrong), 0);
        }
        x.back(0);
        due.is("not ended", x.balance(0, 1), 0);
        x.move(0);
        due.is("ended again", x.balance(0, 1), 286);
    }

    private void promise18And19() {
        due.part("promises 18 and 19");
        JettisonDesk x = new JettisonDesk();
        x.voyage(9, 100, 2);
        x.lot(0, 8, 100, 100, 1, 0, 0);
        x.lot(0, 7, 100, 100, 1, 0, 0);
        x.act(0);
        x.spend(0, 5, 75);
        x.spend(0, 4, 75);
        due.is("not ended", x.payments(0), NONE);
        due.is("not ended", x.payment(0, 0, 0), NONE);
        end(x, 0);
        // -50 of 7, 8 and 9; 75 of 4 and 5.
        int[][] want = {{7, 4, 50}, {8, 5, 50}, {9, 4, 25}, {9, 5, 25}};
        due.is("payments", x.payments(0), want.length);
        for (int k = 0; k < want.length; k++) {
            for (int what = 0; what < 3; what++) {
                due.is("payment " + k + ", " + what, x.payment(0, k, what), want[k][what]);
            }
            due.is("of others", x.payment(0, k, 3), NONE);
            due.is("of others", x.payment(0, k, -1), NONE);
        }
        for (int v : NO_VOYAGES) {
            due.is("no voyage", x.payments(v), NONE);
            due.is("no voyage", x.payment(v, 0, 0), NONE);
        }
        for (int wrong : new int[] {-1, 4, 29, 30, MIN, MAX}) {
            due.is("no payment", x.payment(0, wrong, 0), NONE);
        }
        x.back(0);
        due.is("not ended", x.payments(0), NONE);
        x.back(0);
        x.back(0);
        end(x, 0);
        // 75 by three: 25 each.
        due.is("payments", x.payments(0), 3);
        due.is("the last", x.payment(0, 2, 0), 9);
        due.is("no fourth", x.payment(0, 3, 0), NONE);
        JettisonDesk y = desk();
        end(y, 0);
        due.is("no payments", y.payments(0), 0);
        due.is("no payment", y.payment(0, 0, 0), NONE);
        JettisonDesk z = new JettisonDesk();
        z.voyage(1, 1, 2);
        z.act(0);
        z.spend(0, 0, 1);
        end(z, 0);
        due.is("owner 0 gets", z.gets(0, 0, 0), 1);
        due.is("one unit", z.payments(0), 1);
        due.is("who pays", z.payment(0, 0, 0), 1);
        due.is("whom", z.payment(0, 0, 1), 0);
        due.is("how much", z.payment(0, 0, 2), 1);
        payAllOthers();
    }

    private void payAllOthers() {
        JettisonDesk x = new JettisonDesk();
        x.voyage(0, 29, 2);
        x.act(0);
        for (int owner = 1; owner < 30; owner++) {
            x.spend(0, owner, 1);
        }
        end(x, 0);
        due.is("one pays all others", x.payments(0), 29);
        for (int k = 0; k < 29; k++) {
            due.is("who pays", x.payment(0, k, 0), 0);
            due.is("whom", x.payment(0, k, 1), k + 1);
            due.is("how much", x.payment(0, k, 2), 1);
        }
        due.is("no 30th", x.payment(0, 29, 0), NONE);
    }

    private void promise20() {
        due.part("promise 20");
        JettisonDesk x = new JettisonDesk();
        for (int i = 0; i < 6; i++) {
            due.is("count()", x.count(), i);
            x.voyage(0, 1, 2);
            end(x, i);
            due.is("count()", x.count(), i + 1);
        }
        x.voyage(0, 1, 2);
        x.back(0);
        due.is("count()", x.count(), 6);
    }

    /** Past the bound of use any answer is good, but one must come. */
    private void manyOfAll() {
        due.part("after the 512th call");
        JettisonDesk x = desk();
        x.lot(0, 1, 1000000, 1000000, 2, 1000000, 0);
        for (int i = 0; i < 2000; i++) {
            x.act(0);
            x.give(0, 1, 1);
            x.spend(0, i % 30, 1);
            x.lose(0, 1, 1);
        }
        end(x, 0);
        x.without(0, 0, 0);
        x.payments(0);
        for (int i = 0; i < 9000; i++) {
            x.back(0);
        }
        due.is("voyages stay", x.count(), 1);
    }

    private void apart() {
        due.part("voyages stay apart");
        JettisonDesk x = desk();
        x.voyage(1, 2000, 2);
        x.lot(0, 2, 100, 100, 2, 0, 0);
        x.act(0);
        x.act(1);
        x.give(1, 0, 50);
        x.spend(0, 3, 110);
        due.is("interests", x.told(1, 3), 1);
        due.is("no lot there", x.give(1, 1, 1), NONE);
        x.move(1);
        x.move(1);
        due.is("open", x.told(0, 5), 0);
        due.is("has", x.interest(1, 0, 8), 1950);
        end(x, 0);
        due.is("borne", x.share(0, 0, 0, 4), 100);
        due.is("borne", x.share(1, 0, 0, 4), 50);
        due.is("without", x.without(1, 0, 0), 1950);
        due.is("without", x.without(0, 0, 1), 100);
        due.is("balance", x.balance(1, 3), 0);
        due.is("balance", x.balance(0, 3), 110);
        due.is("back", x.back(1), true);
        due.is("ended", x.told(0, 2), 1);
    }
}
