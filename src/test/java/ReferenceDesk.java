import java.math.BigInteger;
import java.util.ArrayList;
import java.util.Comparator;
import java.util.List;
import java.util.TreeMap;

/**
 * The document told a second time, in another way: a voyage is the list of its events, and all
 * that is asked of it is made anew from that list. Slow, and free of the rules of LANGUAGE.md.
 */
final class ReferenceDesk {
    private static final int NONE = -1;

    private record Told(String kind, int... args) { }

    private static final class Thing {
        int owner;
        long worth;
        long told;
        int port = NONE;
        int lot = NONE;
        int terms;
        long left;
        boolean delivered;
        boolean sunk;

        boolean aboard() {
            return port == NONE || !delivered && !sunk;
        }
    }

    private static final class Deed {
        final List<Integer> atRisk = new ArrayList<>();
        final TreeMap<Integer, Long> taken = new TreeMap<>();
        final TreeMap<Integer, Long> good = new TreeMap<>();
        final TreeMap<Integer, Long> spent = new TreeMap<>();
        TreeMap<Integer, Long> parts = new TreeMap<>();
        TreeMap<Integer, Long> borne = new TreeMap<>();
        TreeMap<Integer, Long> gets = new TreeMap<>();
        long expensesGood;
        long sum;
    }

    private static final class Trip {
        final int owner;
        final int worth;
        final int ports;
        final List<Told> events = new ArrayList<>();

        final List<Thing> things = new ArrayList<>();
        final List<Deed> deeds = new ArrayList<>();
        int port;
        boolean underWay;
        boolean lost;
        int open;
        /** What was adjusted last, kept till an event comes or is taken back; null if nothing was. */
        private long[] adjusted;
        private int adjustedWithout;

        Trip(int owner, int worth, int ports) {
            this.owner = owner;
            this.worth = worth;
            this.ports = ports;
            replay();
        }

        boolean ended() {
            return lost || port == ports - 1;
        }

        void replay() {
            adjusted = null;
            things.clear();
            deeds.clear();
            port = 0;
            underWay = false;
            lost = false;
            open = NONE;
            Thing ship = new Thing();
            ship.owner = owner;
            ship.worth = ship.told = ship.left = worth;
            things.add(ship);
            for (Told event : events) {
                happen(event);
            }
        }

        int come(String kind, int... args) {
            Told event = new Told(kind, args);
            events.add(event);
            return happen(event);
        }

        private int happen(Told event) {
            adjusted = null;
            int[] args = event.args();
            if (event.kind().equals("give")) {
                return given(args[0], args[1]);
            }
            if (event.kind().equals("spend")) {
                return (int) (long) deeds.get(open).spent.merge(args[0], (long) args[1], Long::sum);
            }
            open = NONE;
            return switch (event.kind()) {
                case "lot" -> loaded(args);
                case "move" -> moved();
                case "act" -> begun();
                case "lose" -> {
                    take(args[0], args[1]);
                    yield (int) things.get(args[0]).left;
                }
                default -> sunk();
            };
        }

        private int loaded(int[] args) {
            Thing lot = new Thing();
            lot.owner = args[0];
            lot.worth = lot.left = args[1];
            lot.told = args[2];
            lot.port = args[3];
            lot.terms = args[5];
            things.add(lot);
            int number = things.size() - 1;
            if (args[4] > 0) {
                Thing freight = new Thing();
                freight.owner = owner;
                freight.worth = freight.left = freight.told = args[4];
                freight.port = args[3];
                freight.lot = number;
                things.add(freight);
            }
            return number;
        }

        private int moved() {
            if (!underWay) {
                underWay = true;
                return port;
            }
            underWay = false;
            port++;
            for (Thing thing : things) {
                if (thing.port == port) {
                    thing.delivered = true;
                }
            }
            return port;
        }

        private int begun() {
            Deed deed = new Deed();
            for (int i = 0; i < things.size(); i++) {
                if (things.get(i).aboard() && things.get(i).left > 0) {
                    deed.atRisk.add(i);
                }
            }
            deeds.add(deed);
            open = deeds.size() - 1;
            return open;
        }

        private int sunk() {
            for (Thing thing : things) {
                if (thing.aboard()) {
                    thing.left = 0;
                    thing.sunk = true;
                }
            }
            lost = true;
            underWay = false;
            return 1;
        }

        private long take(int i, long n) {
            Thing thing = things.get(i);
            long freightLost = 0;
            for (Thing freight : things) {
                if (freight.lot == i) {
                    freightLost = BigInteger.valueOf(freight.left).multiply(BigInteger.valueOf(n))
                            .divide(BigInteger.valueOf(thing.left)).longValueExact();
                    freight.left -= freightLost;
                }
            }
            thing.left -= n;
            return freightLost;
        }

        private int given(int i, long n) {
            Deed deed = deeds.get(open);
            Thing thing = things.get(i);
            long freightLost = take(i, n);
            long good = i == 0 ? n : thing.terms == 0 ? n * thing.told / thing.worth : 0;
            deed.taken.merge(i, n, Long::sum);
            deed.good.merge(i, good, Long::sum);
            for (int f = 0; f < things.size(); f++) {
                if (things.get(f).lot == i) {
                    deed.taken.merge(f, freightLost, Long::sum);
                    deed.good.merge(f, thing.terms == 0 ? freightLost : 0, Long::sum);
                }
            }
            return (int) good;
        }

        /** What each has in the end; what is borne is written into the deeds. */
        long[] adjust(int without) {
            if (adjusted == null || adjustedWithout != without) {
                adjusted = adjustAnew(without);
                adjustedWithout = without;
            }
            return adjusted;
        }

        private long[] adjustAnew(int without) {
            long[] has = things.stream().mapToLong(t -> t.left).toArray();
            for (int a = deeds.size() - 1; a >= 0; a--) {
                Deed deed = deeds.get(a);
                boolean none = a == without;
                deed.parts = new TreeMap<>();
                long have = 0;
                long good = 0;
                for (int i : deed.atRisk) {
                    long made = none ? 0 : deed.good.getOrDefault(i, 0L);
                    deed.parts.put(i, has[i] + made);
                    have += has[i];
                    good += made;
                }
                long spent = none ? 0 : total(deed.spent);
                deed.expensesGood = Math.min(spent, have);
                deed.sum = deed.expensesGood + good;
                deed.borne = divided(deed.sum, deed.parts);
                deed.gets = divided(deed.expensesGood, deed.spent);
                for (int i : deed.atRisk) {
                    has[i] = deed.parts.get(i) - deed.borne.get(i);
                }
            }
            return has;
        }

        long[] balances() {
            adjust(NONE);
            long[] balances = new long[30];
            for (Deed deed : deeds) {
                deed.good.forEach((i, n) -> balances[things.get(i).owner] += n);
                deed.borne.forEach((i, n) -> balances[things.get(i).owner] -= n);
                deed.gets.forEach((owner, n) -> balances[owner] += n);
            }
            return balances;
        }

        List<int[]> payments() {
            long[] balances = balances();
            List<int[]> payments = new ArrayList<>();
            while (true) {
                int least = 0;
                int greatest = 0;
                for (int owner = 29; owner >= 0; owner--) {
                    least = balances[owner] <= balances[least] ? owner : least;
                    greatest = balances[owner] >= balances[greatest] ? owner : greatest;
                }
                if (balances[least] == 0 && balances[greatest] == 0) {
                    return payments;
                }
                long n = Math.min(-balances[least], balances[greatest]);
                if (n <= 0) {
                    throw new IllegalStateException("the balances do not add up to 0");
                }
                balances[least] += n;
                balances[greatest] -= n;
                payments.add(new int[] {least, greatest, (int) n});
            }
        }
    }

    private static long total(TreeMap<Integer, Long> row) {
        return row.values().stream().mapToLong(n -> n).sum();
    }

    private static TreeMap<Integer, Long> divided(long whole, TreeMap<Integer, Long> weights) {
        TreeMap<Integer, Long> shares = new TreeMap<>();
        long all = total(weights);
        weights.forEach((key, weight) -> shares.put(key, all == 0 ? 0 : whole * weight / all));
        if (all == 0) {
            return shares;
        }
        List<Integer> order = new ArrayList<>(weights.keySet());
        order.sort(Comparator.comparingLong((Integer key) -> -(whole * weights.get(key) % all))
                .thenComparingInt(key -> key));
        long rest = whole - total(shares);
        for (int k = 0; k < rest; k++) {
            shares.merge(order.get(k), 1L, Long::sum);
        }
        return shares;
    }

    private final List<Trip> trips = new ArrayList<>();

    private Trip trip(int v) {
        return v >= 0 && v < trips.size() ? trips.get(v) : null;
    }

    private static boolean in(int n, long least, long most) {
        return n >= least && n <= most;
    }

    int voyage(int owner, int worth, int ports) {
        if (!in(owner, 0, 29) || !in(worth, 1, 1000000) || !in(ports, 2, 10) || trips.size() == 6) {
            return NONE;
        }
        trips.add(new Trip(owner, worth, ports));
        return trips.size() - 1;
    }

    int lot(int v, int owner, int worth, int told, int port, int freight, int terms) {
        Trip t = trip(v);
        if (t == null || t.ended() || t.underWay || !in(owner, 0, 29) || !in(worth, 1, 1000000)
                || !in(told, 1, worth) || port <= t.port || port >= t.ports || !in(freight, 0, 1000000)
                || !in(terms, 0, 2)) {
            return NONE;
        }
        long lots = t.events.stream().filter(e -> e.kind().equals("lot")).count();
        return lots == 40 ? NONE : t.come("lot", owner, worth, told, port, freight, terms);
    }

    int move(int v) {
        Trip t = trip(v);
        return t == null || t.ended() ? NONE : t.come("move");
    }

    int act(int v) {
        Trip t = trip(v);
        return t == null || t.ended() || t.deeds.size() == 12 ? NONE : t.come("act");
    }

    private static boolean takable(Trip t, int i, int n) {
        return in(i, 0, t.things.size() - 1) && t.things.get(i).aboard() && t.things.get(i).lot == NONE
                && in(n, 1, t.things.get(i).left);
    }

    int give(int v, int i, int n) {
        Trip t = trip(v);
        return t == null || t.open == NONE || !takable(t, i, n) ? NONE : t.come("give", i, n);
    }

    int spend(int v, int owner, int n) {
        Trip t = trip(v);
        if (t == null || t.open == NONE || !in(owner, 0, 29) || !in(n, 1, 1000000)) {
            return NONE;
        }
        long ahead = t.deeds.get(t.open).spent.getOrDefault(owner, 0L);
        return ahead + n > 1000000 ? NONE : t.come("spend", owner, n);
    }

    int lose(int v, int i, int n) {
        Trip t = trip(v);
        return t == null || t.ended() || !takable(t, i, n) ? NONE : t.come("lose", i, n);
    }

    boolean lost(int v) {
        Trip t = trip(v);
        return t != null && !t.ended() && t.underWay && t.come("lost") == 1;
    }

    boolean back(int v) {
        Trip t = trip(v);
        if (t == null || t.events.isEmpty()) {
            return false;
        }
        t.events.remove(t.events.size() - 1);
        t.replay();
        return true;
    }

    int told(int v, int what) {
        Trip t = trip(v);
        if (t == null || !in(what, 0, 6)) {
            return NONE;
        }
        return new int[] {t.port, t.underWay ? 1 : 0, t.ended() ? 1 : 0, t.things.size(), t.deeds.size(),
            t.open, t.events.size()}[what];
    }

    int interest(int v, int i, int what) {
        Trip t = trip(v);
        if (t == null || !in(i, 0, t.things.size() - 1) || !in(what, 0, 8)) {
            return NONE;
        }
        Thing thing = t.things.get(i);
        long end = t.ended() ? t.adjust(NONE)[i] : NONE;
        return (int) new long[] {thing.owner, thing.worth, thing.left, thing.aboard() ? 1 : 0, thing.port,
            thing.lot, thing.terms, thing.told, end}[what];
    }

    private static Deed deed(Trip t, int act) {
        return t != null && in(act, 0, t.deeds.size() - 1) ? t.deeds.get(act) : null;
    }

    int share(int v, int act, int i, int what) {
        Trip t = trip(v);
        Deed deed = deed(t, act);
        if (deed == null || !in(i, 0, t.things.size() - 1) || !in(what, 0, t.ended() ? 4 : 2)) {
            return NONE;
        }
        t.adjust(NONE);
        return (int) new long[] {deed.atRisk.contains(i) ? 1 : 0, deed.taken.getOrDefault(i, 0L),
            deed.good.getOrDefault(i, 0L), deed.parts.getOrDefault(i, 0L),
            deed.borne.getOrDefault(i, 0L)}[what];
    }

    int sum(int v, int act, int what) {
        Trip t = trip(v);
        Deed deed = deed(t, act);
        if (deed == null || !in(what, 0, t.ended() ? 4 : 1)) {
            return NONE;
        }
        t.adjust(NONE);
        return (int) new long[] {total(deed.spent), total(deed.good), deed.expensesGood, deed.sum,
            total(deed.parts)}[what];
    }

    int gets(int v, int act, int owner) {
        Trip t = trip(v);
        Deed deed = deed(t, act);
        if (deed == null || !in(owner, 0, 29) || !t.ended()) {
            return NONE;
        }
        t.adjust(NONE);
        return (int) (long) deed.gets.getOrDefault(owner, 0L);
    }

    int without(int v, int act, int i) {
        Trip t = trip(v);
        if (deed(t, act) == null || !in(i, 0, t.things.size() - 1) || !t.ended()) {
            return NONE;
        }
        return (int) t.adjust(act)[i];
    }

    int balance(int v, int owner) {
        Trip t = trip(v);
        return t == null || !t.ended() || !in(owner, 0, 29) ? 0 : (int) t.balances()[owner];
    }

    int payments(int v) {
        Trip t = trip(v);
        return t == null || !t.ended() ? NONE : t.payments().size();
    }

    int payment(int v, int k, int what) {
        if (!in(k, 0, payments(v) - 1) || !in(what, 0, 2)) {
            return NONE;
        }
        return trip(v).payments().get(k)[what];
    }

    int count() {
        return trips.size();
    }
}
