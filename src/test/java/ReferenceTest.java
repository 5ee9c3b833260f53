import java.util.Random;

/** Runs of at most 512 calls, made up from fixed seeds: each answer must be the reference's. */
public final class ReferenceTest {
    private static final int RUNS = 3000;
    private static final int CALLS = 512;
    private static final int[] ODD = {-1, Integer.MIN_VALUE, Integer.MAX_VALUE, 30, 81, 1000001, 0};

    private final Due due = new Due("ReferenceTest");
    private final Random random;
    private final JettisonDesk desk = new JettisonDesk();
    private final ReferenceDesk reference = new ReferenceDesk();
    /** How large worths are in this run: small ones make many like cuts, large ones long products. */
    private final int scale;
    private final int owners;
    /** How many calls of a hundred are events, and how many of the events are taken back. */
    private final int eventful;
    private final int backs;
    private int calls = 0;

    private ReferenceTest(int seed) {
        random = new Random(seed);
        due.part("seed " + seed);
        scale = new int[] {3, 12, 100, 1000, 1000000}[random.nextInt(5)];
        owners = new int[] {2, 5, 30}[random.nextInt(3)];
        eventful = new int[] {30, 60, 90}[random.nextInt(3)];
        backs = new int[] {0, 5, 20}[random.nextInt(3)];
    }

    public static void main(String[] args) {
        int answers = 0;
        for (int seed = 0; seed < RUNS; seed++) {
            ReferenceTest run = new ReferenceTest(seed);
            run.run();
            if (run.due.failed() != 0) {
                run.due.end();
            }
            answers += run.calls;
        }
        System.out.println("ReferenceTest: " + answers + " answers as due, 0 not");
    }

    private void run() {
        if (random.nextInt(20) == 0) {
            crowd();
        }
        while (calls < CALLS && due.failed() == 0) {
            calls++;
            if (desk.count() == 0 || random.nextInt(60) == 0) {
                call("voyage", owner(), amount(), odd(2 + random.nextInt(random.nextInt(3) == 0 ? 9 : 3)));
            } else if (random.nextInt(100) < eventful) {
                event(voyage());
            } else {
                question(voyage());
            }
        }
    }

    /** A voyage with as many lots as it takes, and one too many. */
    private void crowd() {
        calls++;
        call("voyage", random.nextInt(owners), 1 + random.nextInt(scale), 3);
        for (int i = 0; i < 80; i++) {
            calls++;
            load(0);
        }
    }

    private int odd(int plain) {
        return random.nextInt(40) == 0 ? ODD[random.nextInt(ODD.length)] : plain;
    }

    private int voyage() {
        return odd(random.nextInt(Math.max(1, desk.count())));
    }

    private int owner() {
        return odd(random.nextInt(owners));
    }

    private int amount() {
        return odd(1 + random.nextInt(scale));
    }

    private int interestOf(int v) {
        return odd(random.nextInt(Math.max(1, reference.told(v, 3))));
    }

    private int actOf(int v) {
        return odd(random.nextInt(Math.max(1, reference.told(v, 4))));
    }

    private int leftPart(int v, int i) {
        int left = Math.max(1, reference.interest(v, i, 2));
        return odd(random.nextInt(6) == 0 ? left : 1 + random.nextInt(left));
    }

    private void event(int v) {
        if (random.nextInt(100) < backs) {
            call("back", v);
            return;
        }
        int i = interestOf(v);
        switch (random.nextInt(12)) {
            case 0, 1, 2 -> load(v);
            case 3, 4 -> call("move", v);
            case 5 -> call("act", v);
            case 6, 7 -> call("give", v, i, leftPart(v, i));
            case 8, 9 -> call("spend", v, owner(), amount());
            case 10 -> call("lose", v, i, leftPart(v, i));
            default -> call(random.nextInt(4) == 0 ? "lost" : "act", v);
        }
    }

    private void load(int v) {
        int worth = amount();
        int told = random.nextInt(3) == 0 ? worth : 1 + random.nextInt(Math.max(1, Math.min(worth, scale)));
        int freight = random.nextInt(2) == 0 ? 0 : amount();
        int terms = random.nextInt(3) == 0 ? random.nextInt(3) : 0;
        int port = Math.max(0, reference.told(v, 0)) + 1 + random.nextInt(3);
        call("lot", v, owner(), worth, odd(told), odd(port), freight, odd(terms));
    }

    private void question(int v) {
        int i = interestOf(v);
        int a = actOf(v);
        switch (random.nextInt(10)) {
            case 0 -> call("told", v, odd(random.nextInt(7)));
            case 1 -> call("interest", v, i, odd(random.nextInt(9)));
            case 2, 3 -> call("share", v, a, i, odd(random.nextInt(5)));
            case 4 -> call("sum", v, a, odd(random.nextInt(5)));
            case 5 -> call("gets", v, a, owner());
            case 6 -> call("without", v, a, i);
            case 7 -> call("balance", v, owner());
            case 8 -> call(random.nextInt(3) == 0 ? "count" : "payments", v);
            default -> call("payment", v, odd(random.nextInt(Math.max(1, reference.payments(v)))),
                    odd(random.nextInt(3)));
        }
    }

    private void call(String name, int... a) {
        long got = 0;
        long want = 0;
        switch (name) {
            case "voyage" -> { got = desk.voyage(a[0], a[1], a[2]); want = reference.voyage(a[0], a[1], a[2]); }
            case "lot" -> {
                got = desk.lot(a[0], a[1], a[2], a[3], a[4], a[5], a[6]);
                want = reference.lot(a[0], a[1], a[2], a[3], a[4], a[5], a[6]);
            }
            case "move" -> { got = desk.move(a[0]); want = reference.move(a[0]); }
            case "act" -> { got = desk.act(a[0]); want = reference.act(a[0]); }
            case "give" -> { got = desk.give(a[0], a[1], a[2]); want = reference.give(a[0], a[1], a[2]); }
            case "spend" -> { got = desk.spend(a[0], a[1], a[2]); want = reference.spend(a[0], a[1], a[2]); }
            case "lose" -> { got = desk.lose(a[0], a[1], a[2]); want = reference.lose(a[0], a[1], a[2]); }
            case "lost" -> { got = desk.lost(a[0]) ? 1 : 0; want = reference.lost(a[0]) ? 1 : 0; }
            case "back" -> { got = desk.back(a[0]) ? 1 : 0; want = reference.back(a[0]) ? 1 : 0; }
            case "told" -> { got = desk.told(a[0], a[1]); want = reference.told(a[0], a[1]); }
            case "interest" -> { got = desk.interest(a[0], a[1], a[2]); want = reference.interest(a[0], a[1], a[2]); }
            case "share" -> {
                got = desk.share(a[0], a[1], a[2], a[3]);
                want = reference.share(a[0], a[1], a[2], a[3]);
            }
            case "sum" -> { got = desk.sum(a[0], a[1], a[2]); want = reference.sum(a[0], a[1], a[2]); }
            case "gets" -> { got = desk.gets(a[0], a[1], a[2]); want = reference.gets(a[0], a[1], a[2]); }
            case "without" -> { got = desk.without(a[0], a[1], a[2]); want = reference.without(a[0], a[1], a[2]); }
            case "balance" -> { got = desk.balance(a[0], a[1]); want = reference.balance(a[0], a[1]); }
            case "payments" -> { got = desk.payments(a[0]); want = reference.payments(a[0]); }
            case "payment" -> { got = desk.payment(a[0], a[1], a[2]); want = reference.payment(a[0], a[1], a[2]); }
            default -> { got = desk.count(); want = reference.count(); }
        }
        due.is("call " + calls + ", " + name + java.util.Arrays.toString(a), got, want);
    }
}
