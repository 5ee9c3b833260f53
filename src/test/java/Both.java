import java.util.Arrays;

/** The class and the reference side by side: each call goes to both, and the answers must be like ones. */
final class Both {
    static final int MOST_CALLS = 512;

    final ReferenceDesk reference = new ReferenceDesk();
    private final JettisonDesk desk = new JettisonDesk();
    private final Due due;
    private int calls = 0;

    Both(Due due) {
        this.due = due;
    }

    /** How many calls the bound of use still allows. */
    int callsLeft() {
        return MOST_CALLS - calls;
    }

    /** The reference's answer; a boolean counts 1 or 0. */
    long call(String name, int... a) {
        calls++;
        if (calls > MOST_CALLS) {
            throw new IllegalStateException(calls + " calls on one object");
        }
        long want = ofReference(name, a);
        long got = ofDesk(name, a);
        // The text is made only for an answer that is wrong: there are millions of right ones.
        due.is(got == want ? "" : "call " + calls + ", " + name + Arrays.toString(a), got, want);
        return want;
    }

    private long ofDesk(String name, int[] a) {
        return switch (name) {
            case "voyage" -> desk.voyage(a[0], a[1], a[2]);
            case "lot" -> desk.lot(a[0], a[1], a[2], a[3], a[4], a[5], a[6]);
            case "move" -> desk.move(a[0]);
            case "act" -> desk.act(a[0]);
            case "give" -> desk.give(a[0], a[1], a[2]);
            case "spend" -> desk.spend(a[0], a[1], a[2]);
            case "lose" -> desk.lose(a[0], a[1], a[2]);
            case "lost" -> desk.lost(a[0]) ? 1 : 0;
            case "back" -> desk.back(a[0]) ? 1 : 0;
            case "told" -> desk.told(a[0], a[1]);
            case "interest" -> desk.interest(a[0], a[1], a[2]);
            case "share" -> desk.share(a[0], a[1], a[2], a[3]);
            case "sum" -> desk.sum(a[0], a[1], a[2]);
            case "gets" -> desk.gets(a[0], a[1], a[2]);
            case "without" -> desk.without(a[0], a[1], a[2]);
            case "balance" -> desk.balance(a[0], a[1]);
            case "payments" -> desk.payments(a[0]);
            case "payment" -> desk.payment(a[0], a[1], a[2]);
            case "count" -> desk.count();
            default -> throw new IllegalArgumentException(name);
        };
    }

    private long ofReference(String name, int[] a) {
        return switch (name) {
            case "voyage" -> reference.voyage(a[0], a[1], a[2]);
            case "lot" -> reference.lot(a[0], a[1], a[2], a[3], a[4], a[5], a[6]);
            case "move" -> reference.move(a[0]);
            case "act" -> reference.act(a[0]);
            case "give" -> reference.give(a[0], a[1], a[2]);
            case "spend" -> reference.spend(a[0], a[1], a[2]);
            case "lose" -> reference.lose(a[0], a[1], a[2]);
            case "lost" -> reference.lost(a[0]) ? 1 : 0;
            case "back" -> reference.back(a[0]) ? 1 : 0;
            case "told" -> reference.told(a[0], a[1]);
            case "interest" -> reference.interest(a[0], a[1], a[2]);
            case "share" -> reference.share(a[0], a[1], a[2], a[3]);
            case "sum" -> reference.sum(a[0], a[1], a[2]);
            case "gets" -> reference.gets(a[0], a[1], a[2]);
            case "without" -> reference.without(a[0], a[1], a[2]);
            case "balance" -> reference.balance(a[0], a[1]);
            case "payments" -> reference.payments(a[0]);
            case "payment" -> reference.payment(a[0], a[1], a[2]);
            case "count" -> reference.count();
            default -> throw new IllegalArgumentException(name);
        };
    }
}
