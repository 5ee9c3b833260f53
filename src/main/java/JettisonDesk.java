import java.util.ArrayList;
import java.util.Arrays;
import java.util.List;

/**
 * An average adjuster's desk: voyages with their interests, acts and events, and, when a voyage
 * is over, who bears how much and who pays whom.
 */
public final class JettisonDesk {
    public static final int NONE = -1;

    private static final int OWNERS = 30;
    private static final int MOST_VOYAGES = 6;
    private static final int LEAST_PORTS = 2;
    private static final int MOST_PORTS = 10;
    private static final int MOST_LOTS = 40;
    private static final int MOST_INTERESTS = 1 + 2 * MOST_LOTS;
    private static final int MOST_ACTS = 12;
    private static final int MOST_UNITS = 1000000;
    private static final int PROPER_TERMS = 0;
    private static final int LAST_TERMS = 2;

    /** A desk is used for 512 calls, so that no voyage of it ever needs a longer log. */
    private static final int MOST_EVENTS = 512;

    private static final int LOADING = 0;
    private static final int MOVING = 1;
    private static final int BEGINNING = 2;
    private static final int GIVING = 3;
    private static final int SPENDING = 4;
    private static final int LOSING = 5;
    private static final int WRECKING = 6;

    private final List<Voyage> voyages;
    private final Adjuster adjuster;

    public JettisonDesk() {
        voyages = new ArrayList<>();
        adjuster = new Adjuster();
    }

    public int voyage(int owner, int worth, int ports) {
        if (!isOwner(owner) || !isAmount(worth) || !isWithin(ports, LEAST_PORTS, MOST_PORTS)) {
            return NONE;
        }
        if (voyages.size() >= MOST_VOYAGES) {
            return NONE;
        }
        Voyage begun = new Voyage(owner, ports, adjuster);
        begun.interests.add(new Interest(owner, worth, worth, NONE, NONE, PROPER_TERMS));
        voyages.add(begun);
        return voyages.size() - 1;
    }

    public int lot(int v, int owner, int worth, int told, int port, int freight, int terms) {
        Voyage found = voyageAt(v);
        if (found == null || !found.canLoadFor(port)) {
            return NONE;
        }
        if (!isOwner(owner) || !isAmount(worth) || !isWithin(told, 1, worth)) {
            return NONE;
        }
        if (!isWithin(freight, 0, MOST_UNITS) || !isWithin(terms, PROPER_TERMS, LAST_TERMS)) {
            return NONE;
        }
        return found.load(new Interest(owner, worth, told, port, NONE, terms), freight);
    }

    public int move(int v) {
        Voyage found = voyageAt(v);
        return found == null ? NONE : found.moveOn();
    }

    public int act(int v) {
        Voyage found = voyageAt(v);
        return found == null ? NONE : found.beginAct();
    }

    public int give(int v, int interest, int n) {
        Voyage found = voyageAt(v);
        return found == null ? NONE : found.giveUp(interest, n);
    }

    public int spend(int v, int owner, int n) {
        Voyage found = voyageAt(v);
        return found == null || !isOwner(owner) ? NONE : found.spendFor(owner, n);
    }

    public int lose(int v, int interest, int n) {
        Voyage found = voyageAt(v);
        return found == null ? NONE : found.loseOf(interest, n);
    }

    public boolean lost(int v) {
        Voyage found = voyageAt(v);
        return found != null && found.wreck();
    }

    public boolean back(int v) {
        Voyage found = voyageAt(v);
        return found != null && found.takeBack();
    }

    public int told(int v, int what) {
        Voyage found = voyageAt(v);
        if (found == null) {
            return NONE;
        }
        switch (what) {
            case 0: return found.port;
            case 1: return asNumber(found.underWay);
            case 2: return asNumber(found.isEnded());
            case 3: return found.interests.size();
            case 4: return found.acts.size();
            case 5: return found.openAct;
            case 6: return found.events.size();
            default: return NONE;
        }
    }

    public int interest(int v, int i, int what) {
        Voyage found = voyageAt(v);
        Interest one = found == null ? null : found.interestAt(i);
        if (one == null) {
            return NONE;
        }
        switch (what) {
            case 0: return one.owner;
            case 1: return one.worth;
            case 2: return one.left;
            case 3: return asNumber(found.isAboard(one));
            case 4: return one.port;
            case 5: return one.lotNumber;
            case 6: return one.terms;
            case 7: return one.toldWorth;
            case 8: return found.isEnded() ? one.has : NONE;
            default: return NONE;
        }
    }

    public int share(int v, int act, int i, int what) {
        Voyage found = voyageAt(v);
        Act done = found == null ? null : found.actAt(act);
        if (done == null || found.interestAt(i) == null) {
            return NONE;
        }
        switch (what) {
            case 0: return asNumber(done.atRisk[i]);
            case 1: return done.taken[i];
            case 2: return done.made[i];
            case 3: return found.isEnded() ? done.part[i] : NONE;
            case 4: return found.isEnded() ? done.borne[i] : NONE;
            default: return NONE;
        }
    }

    public int sum(int v, int act, int what) {
        Voyage found = voyageAt(v);
        Act done = found == null ? null : found.actAt(act);
        if (done == null) {
            return NONE;
        }
        switch (what) {
            case 0: return done.allSpent;
            case 1: return done.allMade;
            case 2: return found.isEnded() ? done.spentMadeGood : NONE;
            case 3: return found.isEnded() ? done.allBorne : NONE;
            case 4: return found.isEnded() ? done.allParts : NONE;
            default: return NONE;
        }
    }

    public int gets(int v, int act, int owner) {
        Voyage found = endedVoyageAt(v);
        Act done = found == null ? null : found.actAt(act);
        return done == null || !isOwner(owner) ? NONE : done.got[owner];
    }

    public int without(int v, int act, int i) {
        Voyage found = endedVoyageAt(v);
        if (found == null || found.actAt(act) == null || found.interestAt(i) == null) {
            return NONE;
        }
        return found.hasWithout(act, i);
    }

    public int balance(int v, int owner) {
        Voyage found = endedVoyageAt(v);
        return found == null || !isOwner(owner) ? 0 : found.settlement.balances[owner];
    }

    public int payments(int v) {
        Voyage found = endedVoyageAt(v);
        return found == null ? NONE : found.settlement.paid;
    }

    public int payment(int v, int k, int what) {
        Voyage found = endedVoyageAt(v);
        if (found == null || !isWithin(k, 0, found.settlement.paid - 1)) {
            return NONE;
        }
        switch (what) {
            case 0: return found.settlement.payers[k];
            case 1: return found.settlement.payees[k];
            case 2: return found.settlement.amounts[k];
            default: return NONE;
        }
    }

    public int count() {
        return voyages.size();
    }

    private Voyage voyageAt(int v) {
        return isWithin(v, 0, voyages.size() - 1) ? voyages.get(v) : null;
    }

    private Voyage endedVoyageAt(int v) {
        Voyage found = voyageAt(v);
        return found != null && found.isEnded() ? found : null;
    }

    private static boolean isWithin(int n, int least, int most) {
        return n >= least && n <= most;
    }

    private static boolean isOwner(int owner) {
        return isWithin(owner, 0, OWNERS - 1);
    }

    private static boolean isAmount(int n) {
        return isWithin(n, 1, MOST_UNITS);
    }

    private static int asNumber(boolean yes) {
        return yes ? 1 : 0;
    }

    /** The ship, a lot or a freight. */
    private static final class Interest {
        final int owner;
        final int worth;
        final int toldWorth;
        /** Where it is delivered; NONE of the ship. */
        final int port;
        /** Of a freight its lot; NONE of others. */
        final int lotNumber;
        final int terms;
        int left;
        int leftBeforeWreck;
        int has;

        Interest(int owner, int worth, int toldWorth, int port, int lotNumber, int terms) {
            this.owner = owner;
            this.worth = worth;
            this.toldWorth = toldWorth;
            this.port = port;
            this.lotNumber = lotNumber;
            this.terms = terms;
            left = worth;
        }

        boolean isFreight() {
            return lotNumber != NONE;
        }

        /** The ship's told worth is its worth, so that one rule serves ship and lots. */
        int madeGoodFor(int n) {
            if (terms != PROPER_TERMS || worth < 1) {
                return 0;
            }
            return (int) ((long) n * toldWorth / worth);
        }

        /** A freight follows the terms of its lot, though it bears none itself. */
        int freightMadeGoodFor(int n) {
            return terms == PROPER_TERMS ? n : 0;
        }
    }

    /** What must be known of an event to take it back. */
    private static final class Event {
        final int kind;
        /** The interest or the owner that it touched. */
        final int place;
        final int n;
        final int freightTaken;
        final int openBefore;

        Event(int kind, int place, int n, int freightTaken, int openBefore) {
            this.kind = kind;
            this.place = place;
            this.n = n;
            this.freightTaken = freightTaken;
            this.openBefore = openBefore;
        }
    }

    /** An act: what was given and spent in it, and how it was adjusted. */
    private static final class Act {
        final boolean[] atRisk = new boolean[MOST_INTERESTS];
        final int[] taken = new int[MOST_INTERESTS];
        final int[] made = new int[MOST_INTERESTS];
        final int[] part = new int[MOST_INTERESTS];
        final int[] borne = new int[MOST_INTERESTS];
        final int[] spent = new int[OWNERS];
        final int[] got = new int[OWNERS];
        int allSpent;
        int allMade;
        int spentMadeGood;
        int allBorne;
        int allParts;

        /** With n and good below 0 a giving is taken back. */
        void addGiving(int number, int n, int good) {
            if (isWithin(number, 0, MOST_INTERESTS - 1)) {
                taken[number] += n;
                made[number] += good;
                allMade += good;
            }
        }

        /** With n below 0 an expense is taken back. */
        void addExpense(int owner, int n) {
            if (isOwner(owner)) {
                spent[owner] += n;
                allSpent += n;
            }
        }
    }

    /** Rows for adjusting one act after the other, made once for all voyages of a desk. */
    private static final class Adjuster {
        final int[] has = new int[MOST_INTERESTS];
        final int[] part = new int[MOST_INTERESTS];
        final int[] borne = new int[MOST_INTERESTS];
        private final long[] cutOff = new long[MOST_INTERESTS];
        private int places;
        private int spentMadeGood;
        private int allBorne;
        private int allParts;

        /** Before the latest act each interest has what is left of it. */
        void start(List<Interest> all) {
            places = Math.min(all.size(), MOST_INTERESTS);
            for (int i = 0; i < places; i++) {
                has[i] = all.get(i).left;
            }
        }

        void adjust(Act act) {
            int allHave = 0;
            allParts = 0;
            for (int i = 0; i < places; i++) {
                part[i] = 0;
                if (act.atRisk[i]) {
                    allHave += has[i];
                    part[i] = has[i] + act.made[i];
                    allParts += part[i];
                }
            }
            spentMadeGood = Math.min(act.allSpent, allHave);
            // What the parts hold beyond what all have is what was made good for them.
            allBorne = spentMadeGood + allParts - allHave;
            divide(allBorne, part, places, borne);
            for (int i = 0; i < places; i++) {
                if (act.atRisk[i]) {
                    has[i] = part[i] - borne[i];
                }
            }
        }

        /** Writes what was just adjusted into the act. */
        void writeInto(Act act) {
            System.arraycopy(part, 0, act.part, 0, places);
            System.arraycopy(borne, 0, act.borne, 0, places);
            act.spentMadeGood = spentMadeGood;
            act.allBorne = allBorne;
            act.allParts = allParts;
            divide(spentMadeGood, act.spent, OWNERS, act.got);
        }

        /**
         * Divides a whole by weights: cut, then one unit more each for those of which most was
         * cut off. The rows have n places or more, and n is at most MOST_INTERESTS.
         */
        private void divide(int whole, int[] weights, int n, int[] shares) {
            long allWeights = 0;
            for (int i = 0; i < n; i++) {
                allWeights += weights[i];
                shares[i] = 0;
            }
            if (allWeights <= 0) {
                return;
            }
            int rest = whole;
            for (int i = 0; i < n; i++) {
                long product = (long) whole * weights[i];
                shares[i] = (int) (product / allWeights);
                cutOff[i] = product % allWeights;
                rest -= shares[i];
            }
            // All that was cut off makes fewer units than there are places.
            for (int unit = 0; unit < rest && unit < n; unit++) {
                int most = placeOfMost(cutOff, n);
                shares[most]++;
                // Less than any that was not chosen yet.
                cutOff[most] = -1;
            }
        }

        /** Of like ones the first; 0 if there are no places. */
        private static int placeOfMost(long[] row, int n) {
            int most = 0;
            for (int i = 1; i < n; i++) {
                if (row[i] > row[most]) {
                    most = i;
                }
            }
            return most;
        }
    }

    /** The balances of an ended voyage, and the payments that make them even. */
    private static final class Settlement {
        final int[] balances = new int[OWNERS];
        final int[] payers = new int[OWNERS];
        final int[] payees = new int[OWNERS];
        final int[] amounts = new int[OWNERS];
        int paid;
        private final int[] open = new int[OWNERS];

        void settle(List<Interest> interests, List<Act> acts) {
            Arrays.fill(balances, 0);
            for (int a = 0; a < acts.size(); a++) {
                addAct(interests, acts.get(a));
            }
            pay();
        }

        private void addAct(List<Interest> interests, Act act) {
            for (int i = 0; i < interests.size() && i < MOST_INTERESTS; i++) {
                int owner = interests.get(i).owner;
                if (isOwner(owner)) {
                    balances[owner] += act.made[i] - act.borne[i];
                }
            }
            for (int owner = 0; owner < OWNERS; owner++) {
                balances[owner] += act.got[owner];
            }
        }

        /** Each payment makes one balance 0, so that there are fewer than owners. */
        private void pay() {
            System.arraycopy(balances, 0, open, 0, OWNERS);
            paid = 0;
            while (paid < OWNERS) {
                int payer = ownerOfLeast();
                int payee = ownerOfGreatest();
                int amount = Math.min(-open[payer], open[payee]);
                if (amount <= 0) {
                    return;
                }
                open[payer] += amount;
                open[payee] -= amount;
                payers[paid] = payer;
                payees[paid] = payee;
                amounts[paid] = amount;
                paid++;
            }
        }

        private int ownerOfLeast() {
            int least = 0;
            for (int owner = 1; owner < OWNERS; owner++) {
                if (open[owner] < open[least]) {
                    least = owner;
                }
            }
            return least;
        }

        private int ownerOfGreatest() {
            int greatest = 0;
            for (int owner = 1; owner < OWNERS; owner++) {
                if (open[owner] > open[greatest]) {
                    greatest = owner;
                }
            }
            return greatest;
        }
    }

    /** A voyage: where the ship is, what is at stake in it, and all that came. */
    private static final class Voyage {
        final List<Interest> interests = new ArrayList<>();
        final List<Act> acts = new ArrayList<>();
        final List<Event> events = new ArrayList<>();
        final Settlement settlement = new Settlement();
        private final int shipOwner;
        private final int ports;
        private final Adjuster adjuster;
        int port;
        boolean underWay;
        int openAct;
        private boolean wrecked;
        private int lots;

        /** The ship is put in as the first interest by who makes the voyage. */
        Voyage(int shipOwner, int ports, Adjuster adjuster) {
            this.shipOwner = shipOwner;
            this.ports = ports;
            this.adjuster = adjuster;
            openAct = NONE;
        }

        boolean isEnded() {
            return wrecked || port >= ports - 1;
        }

        boolean isAboard(Interest one) {
            return one.port == NONE || !wrecked && port < one.port;
        }

        /** One that is found has a place in the rows of each act too. */
        Interest interestAt(int number) {
            int places = Math.min(interests.size(), MOST_INTERESTS);
            return isWithin(number, 0, places - 1) ? interests.get(number) : null;
        }

        Act actAt(int number) {
            return isWithin(number, 0, acts.size() - 1) ? acts.get(number) : null;
        }

        boolean canLoadFor(int aim) {
            return takesEvents() && !underWay && lots < MOST_LOTS && isWithin(aim, port + 1, ports - 1);
        }

        /** Loads what canLoadFor() allows: the lot's number. */
        int load(Interest lot, int freight) {
            note(LOADING);
            int number = interests.size();
            interests.add(lot);
            lots++;
            if (freight > 0) {
                interests.add(new Interest(shipOwner, freight, freight, lot.port, number, PROPER_TERMS));
            }
            return number;
        }

        int moveOn() {
            if (!takesEvents()) {
                return NONE;
            }
            note(MOVING);
            if (underWay) {
                port++;
            }
            underWay = !underWay;
            adjustIfEnded();
            return port;
        }

        int beginAct() {
            if (!takesEvents() || acts.size() >= MOST_ACTS) {
                return NONE;
            }
            note(BEGINNING);
            Act begun = new Act();
            for (int i = 0; i < interests.size() && i < MOST_INTERESTS; i++) {
                Interest one = interests.get(i);
                begun.atRisk[i] = isAboard(one) && one.left > 0;
            }
            acts.add(begun);
            openAct = acts.size() - 1;
            return openAct;
        }

        int giveUp(int number, int n) {
            Act open = actAt(openAct);
            Interest given = interestAt(number);
            if (open == null || given == null || !takesEvents() || !canTake(given, n)) {
                return NONE;
            }
            int freightTaken = take(number, n);
            int good = given.madeGoodFor(n);
            open.addGiving(number, n, good);
            open.addGiving(number + 1, freightTaken, given.freightMadeGoodFor(freightTaken));
            noteTouching(GIVING, number, n, freightTaken);
            return good;
        }

        int spendFor(int owner, int n) {
            Act open = actAt(openAct);
            if (open == null || !takesEvents() || !isOwner(owner) || !isAmount(n)) {
                return NONE;
            }
            if (!isAmount(open.spent[owner] + n)) {
                return NONE;
            }
            open.addExpense(owner, n);
            noteTouching(SPENDING, owner, n, 0);
            return open.spent[owner];
        }

        int loseOf(int number, int n) {
            Interest damaged = interestAt(number);
            if (damaged == null || !takesEvents() || !canTake(damaged, n)) {
                return NONE;
            }
            noteTouching(LOSING, number, n, take(number, n));
            return damaged.left;
        }

        boolean wreck() {
            if (!takesEvents() || !underWay) {
                return false;
            }
            note(WRECKING);
            for (int i = 0; i < interests.size(); i++) {
                Interest one = interests.get(i);
                if (isAboard(one)) {
                    one.leftBeforeWreck = one.left;
                    one.left = 0;
                }
            }
            wrecked = true;
            underWay = false;
            adjustIfEnded();
            return true;
        }

        boolean takeBack() {
            if (events.isEmpty()) {
                return false;
            }
            Event latest = events.remove(events.size() - 1);
            // First, for givings and expenses are taken out of the act that is open.
            openAct = latest.openBefore;
            switch (latest.kind) {
                case LOADING: unload(); break;
                case MOVING: moveBack(); break;
                case BEGINNING: forgetAct(); break;
                case GIVING: ungive(latest); break;
                case SPENDING: unspend(latest); break;
                case LOSING: putBack(latest); break;
                case WRECKING: unwreck(); break;
                default: break;
            }
            return true;
        }

        /** What an interest would have in the end if the skipped act were not adjusted. */
        int hasWithout(int skipped, int number) {
            adjuster.start(interests);
            for (int a = acts.size() - 1; a >= 0; a--) {
                if (a != skipped) {
                    adjuster.adjust(acts.get(a));
                }
            }
            return isWithin(number, 0, MOST_INTERESTS - 1) ? adjuster.has[number] : NONE;
        }

        private boolean takesEvents() {
            return !isEnded() && events.size() < MOST_EVENTS;
        }

        private boolean canTake(Interest one, int n) {
            return isAboard(one) && !one.isFreight() && isWithin(n, 1, one.left);
        }

        private void note(int kind) {
            noteTouching(kind, NONE, 0, 0);
        }

        /** Writes an event down; all but givings and expenses close the act that is open. */
        private void noteTouching(int kind, int place, int n, int freightTaken) {
            events.add(new Event(kind, place, n, freightTaken, openAct));
            if (kind != GIVING && kind != SPENDING) {
                openAct = NONE;
            }
        }

        private Interest freightOf(int number) {
            Interest next = interestAt(number + 1);
            return next != null && next.lotNumber == number ? next : null;
        }

        /** Takes n from the ship or a lot: what its freight loses by that. */
        private int take(int number, int n) {
            Interest one = interestAt(number);
            if (one == null || one.left < 1) {
                return 0;
            }
            Interest freight = freightOf(number);
            int freightTaken = 0;
            if (freight != null) {
                freightTaken = (int) ((long) freight.left * n / one.left);
                freight.left -= freightTaken;
            }
            one.left -= n;
            return freightTaken;
        }

        private void adjustIfEnded() {
            if (!isEnded()) {
                return;
            }
            adjuster.start(interests);
            for (int a = acts.size() - 1; a >= 0; a--) {
                adjuster.adjust(acts.get(a));
                adjuster.writeInto(acts.get(a));
            }
            for (int i = 0; i < interests.size() && i < MOST_INTERESTS; i++) {
                interests.get(i).has = adjuster.has[i];
            }
            settlement.settle(interests, acts);
        }

        private void unload() {
            Interest last = removeLastInterest();
            if (last != null && last.isFreight()) {
                removeLastInterest();
            }
            lots--;
        }

        private Interest removeLastInterest() {
            return interests.isEmpty() ? null : interests.remove(interests.size() - 1);
        }

        private void moveBack() {
            underWay = !underWay;
            if (underWay) {
                port--;
            }
        }

        private void forgetAct() {
            if (!acts.isEmpty()) {
                acts.remove(acts.size() - 1);
            }
        }

        private void ungive(Event giving) {
            putBack(giving);
            Act open = actAt(openAct);
            Interest given = interestAt(giving.place);
            if (open != null && given != null) {
                int freightTaken = giving.freightTaken;
                open.addGiving(giving.place, -giving.n, -given.madeGoodFor(giving.n));
                open.addGiving(giving.place + 1, -freightTaken, -given.freightMadeGoodFor(freightTaken));
            }
        }

        private void unspend(Event expense) {
            Act open = actAt(openAct);
            if (open != null) {
                open.addExpense(expense.place, -expense.n);
            }
        }

        private void putBack(Event taking) {
            Interest one = interestAt(taking.place);
            if (one != null) {
                one.left += taking.n;
            }
            Interest freight = freightOf(taking.place);
            if (freight != null) {
                freight.left += taking.freightTaken;
            }
        }

        private void unwreck() {
            wrecked = false;
            underWay = true;
            for (int i = 0; i < interests.size(); i++) {
                Interest one = interests.get(i);
                if (isAboard(one)) {
                    one.left = one.leftBeforeWreck;
                }
            }
        }
    }
}
