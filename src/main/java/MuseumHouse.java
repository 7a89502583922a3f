import java.util.NoSuchElementException;

/**
 * A dig and museum house. Inside, everything is a NUMBER in the register of its kind; handles are
 * turned into numbers at the face, where rule 1 is asked, so that the registers only ever meet
 * numbers that are there.
 */
public final class MuseumHouse {
    /** No number in a register. */
    private static final int NONE = -1;
    /** The handle that is none. */
    private static final int NO_HANDLE = 0;
    /** What where() tells of an object that is in no store. */
    private static final int NOWHERE = 1;

    private static final int DESK = 1;
    private static final int SITE = 2;
    private static final int CONTEXT = 3;
    private static final int FIND = 4;
    private static final int OBJECT = 5;
    private static final int STORE = 6;
    private static final int LOAN = 7;
    private static final int SHOW = 8;
    private static final int CLAIM = 9;

    private static final int MOST_DESKS = 6;
    private static final int MOST_SITES = 4;
    private static final int MOST_CONTEXTS = 20;
    private static final int MOST_FINDS = 30;
    private static final int MOST_OBJECTS = 30;
    private static final int MOST_STORES = 16;
    private static final int MOST_LOANS = 40;
    private static final int MOST_SHOWS = 10;
    private static final int MOST_CLAIMS = 20;
    private static final int MOST_MOVES = 12;

    private static final int RIGHT_DESKS = 1;
    private static final int RIGHT_DIGGING = 2;
    private static final int RIGHT_KEEPING = 4;
    private static final int RIGHT_LENDING = 8;
    private static final int RIGHT_SHOWING = 16;
    private static final int RIGHT_CLAIMS = 32;
    private static final int ALL_RIGHTS = 63;

    private static final int LAST_DAY = 9999;
    private static final int MOST_DAYS_AT_ONCE = 1000;
    private static final int LAST_YEAR = 999;
    private static final int LAST_SOURCE = 9;

    private final Desks desks;
    private final Sites sites;
    private final Contexts contexts;
    private final Finds finds;
    private final Items items;
    private final Moves moves;
    private final Stores stores;
    private final Loans loans;
    private final Shows shows;
    private final Claims claims;
    private int today;
    private int refusedBy;

    public MuseumHouse() {
        desks = new Desks();
        sites = new Sites();
        contexts = new Contexts();
        finds = new Finds();
        items = new Items();
        moves = new Moves();
        stores = new Stores();
        loans = new Loans();
        shows = new Shows();
        claims = new Claims();
        today = 0;
        refusedBy = 0;
    }

    public int desk(int desk, int rights)
            throws NoSuchElementException, IllegalStateException, IllegalArgumentException {
        int asker = numberOf(desks, desk);
        askRight(asker, RIGHT_DESKS);
        askRoom(!desks.isFull());
        ask(4, rights >= 0 && rights <= ALL_RIGHTS);
        ask(5, desks.hasAll(asker, rights));
        return desks.open(rights);
    }

    public int day(int days) throws IllegalArgumentException {
        ask(4, days >= 0 && days <= MOST_DAYS_AT_ONCE && days <= LAST_DAY - today);
        today += days;
        return today;
    }

    public int site(int desk) throws NoSuchElementException, IllegalStateException {
        int asker = numberOf(desks, desk);
        askRight(asker, RIGHT_DIGGING);
        askRoom(!sites.isFull());
        return sites.stakeOut();
    }

    public int context(int desk, int site) throws NoSuchElementException, IllegalStateException {
        int asker = numberOf(desks, desk);
        int ground = numberOf(sites, site);
        askRight(asker, RIGHT_DIGGING);
        askRoom(!contexts.isFull());
        return contexts.dig(ground);
    }

    public boolean above(int desk, int a, int b)
            throws NoSuchElementException, IllegalStateException, IllegalArgumentException {
        int asker = numberOf(desks, desk);
        int upper = numberOf(contexts, a);
        int lower = numberOf(contexts, b);
        askRight(asker, RIGHT_DIGGING);
        ask(6, contexts.siteOf(upper) == contexts.siteOf(lower));
        ask(7, upper != lower && !contexts.isOver(lower, upper));
        ask(8, contexts.yearsLetOver(upper, lower));
        boolean isNew = !contexts.isOver(upper, lower);
        contexts.putOver(upper, lower);
        return isNew;
    }

    public int span(int desk, int context, int first, int last)
            throws NoSuchElementException, IllegalStateException, IllegalArgumentException {
        int asker = numberOf(desks, desk);
        int layer = numberOf(contexts, context);
        askRight(asker, RIGHT_DIGGING);
        ask(4, first >= 0 && first <= last && last <= LAST_YEAR);
        ask(8, contexts.yearsLetSpan(layer, first, last));
        contexts.setSpan(layer, first, last);
        return contexts.earliest(layer);
    }

    public boolean isAbove(int a, int b) throws NoSuchElementException {
        int upper = numberOf(contexts, a);
        int lower = numberOf(contexts, b);
        return contexts.isOver(upper, lower);
    }

    public int year(int context, int end) throws NoSuchElementException, IllegalArgumentException {
        int layer = numberOf(contexts, context);
        ask(4, end == 0 || end == 1);
        return end == 0 ? contexts.earliest(layer) : contexts.latest(layer);
    }

    public int find(int desk, int context, int day)
            throws NoSuchElementException, IllegalStateException, IllegalArgumentException {
        int asker = numberOf(desks, desk);
        int layer = numberOf(contexts, context);
        askRight(asker, RIGHT_DIGGING);
        askRoom(!finds.isFull());
        ask(4, isDay(day) && day <= today);
        return finds.bringUp(layer, day);
    }

    public int object(int desk, int find)
            throws NoSuchElementException, IllegalStateException, IllegalArgumentException {
        int asker = numberOf(desks, desk);
        int source = numberOf(finds, find);
        askRight(asker, RIGHT_KEEPING);
        askRoom(!items.isFull());
        ask(9, !items.hasFind(source));
        return items.accept(source, finds.dayOf(source));
    }

    public int store(int desk, int parent) throws NoSuchElementException, IllegalStateException {
        int asker = numberOf(desks, desk);
        int outer = parentNumberOf(parent);
        askRight(asker, RIGHT_KEEPING);
        askRoom(!stores.isFull());
        return stores.build(outer);
    }

    public boolean carry(int desk, int store, int parent)
            throws NoSuchElementException, IllegalStateException, IllegalArgumentException {
        int asker = numberOf(desks, desk);
        int inner = numberOf(stores, store);
        int outer = parentNumberOf(parent);
        askRight(asker, RIGHT_KEEPING);
        ask(10, outer == NONE || !stores.isAtOrIn(outer, inner));
        boolean wasElsewhere = stores.parentOf(inner) != outer;
        stores.setParent(inner, outer);
        return wasElsewhere;
    }

    public boolean within(int store, int other) throws NoSuchElementException {
        int inner = numberOf(stores, store);
        int outer = numberOf(stores, other);
        return stores.isIn(inner, outer);
    }

    public boolean move(int desk, int object, int store, int day)
            throws NoSuchElementException, IllegalStateException, IllegalArgumentException {
        int asker = numberOf(desks, desk);
        int item = numberOf(items, object);
        int target = numberOf(stores, store);
        askRight(asker, RIGHT_KEEPING);
        boolean isNew = !moves.hasDay(item, day);
        askRoom(!isNew || !moves.isFullFor(item));
        ask(4, isDay(day) && day <= today);
        ask(11, day >= items.dayOf(item));
        ask(12, loans.having(item, day, day) == NONE);
        moves.tell(item, target, day);
        return isNew;
    }

    public int place(int object, int day) throws NoSuchElementException, IllegalArgumentException {
        int item = numberOf(items, object);
        ask(4, isDay(day));
        return placeHandle(item, day);
    }

    public int stored(int store, int day) throws NoSuchElementException, IllegalArgumentException {
        int outer = numberOf(stores, store);
        ask(4, isDay(day));
        int held = 0;
        for (int item = 0; item < items.size(); item++) {
            int spot = moves.storeOn(item, day);
            if (spot != NONE && stores.isAtOrIn(spot, outer)) {
                held++;
            }
        }
        return held;
    }

    public int loan(int desk, int object, int from, int to)
            throws NoSuchElementException, IllegalStateException, IllegalArgumentException {
        int asker = numberOf(desks, desk);
        int item = numberOf(items, object);
        askRight(asker, RIGHT_LENDING);
        askRoom(!loans.isFull());
        ask(4, isDay(from) && isDay(to) && from <= to);
        askFree(item, from, to);
        return loans.lend(item, from, to);
    }

    public int back(int desk, int loan, int day)
            throws NoSuchElementException, IllegalStateException, IllegalArgumentException {
        int asker = numberOf(desks, desk);
        int lent = numberOf(loans, loan);
        askRight(asker, RIGHT_LENDING);
        ask(4, isDay(day));
        ask(15, loans.hasDay(lent, day));
        int wasLast = loans.lastDayOf(lent);
        loans.endOn(lent, day);
        return wasLast;
    }

    public int show(int desk, int store, int from, int to)
            throws NoSuchElementException, IllegalStateException, IllegalArgumentException {
        int asker = numberOf(desks, desk);
        int room = numberOf(stores, store);
        askRight(asker, RIGHT_SHOWING);
        askRoom(!shows.isFull());
        ask(4, isDay(from) && isDay(to) && from <= to);
        return shows.plan(room, from, to);
    }

    public boolean hang(int desk, int show, int object)
            throws NoSuchElementException, IllegalStateException, IllegalArgumentException {
        int asker = numberOf(desks, desk);
        int shown = numberOf(shows, show);
        int item = numberOf(items, object);
        askRight(asker, RIGHT_SHOWING);
        if (shows.holds(shown, item)) {
            return false;
        }
        askFree(item, shows.firstDayOf(shown), shows.lastDayOf(shown));
        shows.putIn(shown, item);
        return true;
    }

    public boolean take(int desk, int show, int object)
            throws NoSuchElementException, IllegalStateException {
        int asker = numberOf(desks, desk);
        int shown = numberOf(shows, show);
        int item = numberOf(items, object);
        askRight(asker, RIGHT_SHOWING);
        boolean wasIn = shows.holds(shown, item);
        shows.putOut(shown, item);
        return wasIn;
    }

    public int claim(int desk, int object, int source)
            throws NoSuchElementException, IllegalStateException, IllegalArgumentException {
        int asker = numberOf(desks, desk);
        int item = numberOf(items, object);
        askRight(asker, RIGHT_CLAIMS);
        askRoom(!claims.isFull());
        ask(4, source >= 0 && source <= LAST_SOURCE);
        ask(16, !claims.hasOpenOf(item, source));
        return claims.raise(item, source);
    }

    public int close(int desk, int claim)
            throws NoSuchElementException, IllegalStateException, IllegalArgumentException {
        int asker = numberOf(desks, desk);
        int raised = numberOf(claims, claim);
        askRight(asker, RIGHT_CLAIMS);
        ask(17, claims.isOpen(raised));
        claims.settle(raised);
        return claims.openFor(claims.itemOf(raised));
    }

    public int where(int object, int day) throws NoSuchElementException, IllegalArgumentException {
        int item = numberOf(items, object);
        ask(4, isDay(day));
        if (day < items.dayOf(item)) {
            return NO_HANDLE;
        }
        int lent = loans.having(item, day, day);
        if (lent != NONE) {
            return loans.handleOf(lent);
        }
        int shown = shows.having(item, day, day);
        if (shown != NONE) {
            return shows.handleOf(shown);
        }
        int spot = placeHandle(item, day);
        return spot == NO_HANDLE ? NOWHERE : spot;
    }

    public int origin(int handle) throws NoSuchElementException {
        int layer = contexts.numberFor(handle);
        if (layer != NONE) {
            return sites.handleOf(contexts.siteOf(layer));
        }
        int source = finds.numberFor(handle);
        if (source != NONE) {
            return contexts.handleOf(finds.contextOf(source));
        }
        int item = numberOf(items, handle);
        return finds.handleOf(items.findOf(item));
    }

    public int hall(int show) throws NoSuchElementException {
        int shown = numberOf(shows, show);
        return stores.handleOf(shows.storeOf(shown));
    }

    public int rule() {
        return refusedBy;
    }

    public int count(int kind) throws NoSuchElementException {
        switch (kind) {
            case DESK: return desks.size();
            case SITE: return sites.size();
            case CONTEXT: return contexts.size();
            case FIND: return finds.size();
            case OBJECT: return items.size();
            case STORE: return stores.size();
            case LOAN: return loans.size();
            case SHOW: return shows.size();
            case CLAIM: return claims.size();
            default: throw new NoSuchElementException();
        }
    }

    /** Rule 1, and the number that all else goes by. */
    private int numberOf(Register register, int handle) {
        int number = register.numberFor(handle);
        if (number == NONE) {
            refusedBy = 1;
            throw new NoSuchElementException();
        }
        return number;
    }

    private int parentNumberOf(int parent) {
        return parent == NO_HANDLE ? NONE : numberOf(stores, parent);
    }

    private void askRight(int asker, int right) {
        if (!desks.hasAll(asker, right)) {
            refusedBy = 2;
            throw new IllegalStateException();
        }
    }

    private void askRoom(boolean isThere) {
        if (!isThere) {
            refusedBy = 3;
            throw new IllegalStateException();
        }
    }

    /** Rules 4 to 17, which all throw the same. */
    private void ask(int number, boolean holds) {
        if (!holds) {
            refusedBy = number;
            throw new IllegalArgumentException();
        }
    }

    /** What a loan and a show ask alike of an object that they would have. */
    private void askFree(int item, int from, int to) {
        ask(11, from >= items.dayOf(item));
        ask(13, claims.openFor(item) == 0);
        ask(14, loans.having(item, from, to) == NONE && shows.having(item, from, to) == NONE);
    }

    private int placeHandle(int item, int day) {
        int spot = moves.storeOn(item, day);
        return spot == NONE ? NO_HANDLE : stores.handleOf(spot);
    }

    private static boolean isDay(int day) {
        return day >= 0 && day <= LAST_DAY;
    }

    /** Whether two runs of days, each with its first and last one, share a day. */
    private static boolean daysMeet(int from, int to, int otherFrom, int otherTo) {
        return from <= otherTo && otherFrom <= to;
    }

    /** What there is of one kind: numbers from 0 on, and their handles. */
    private abstract static class Register {
        private final int firstHandle;
        private final int room;
        private int made;

        Register(int kind, int room) {
            this.firstHandle = 100 * kind;
            this.room = room;
            this.made = 0;
        }

        final int size() {
            return made;
        }

        final boolean isFull() {
            return made >= room;
        }

        final int handleOf(int number) {
            return firstHandle + number;
        }

        final int numberFor(int handle) {
            // A difference that wraps around lands far above every number that is there.
            int number = handle - firstHandle;
            return number >= 0 && number < made ? number : NONE;
        }

        /** Only behind a look at isFull, so that the number fits the rows of the register. */
        final int enter() {
            int number = made;
            made++;
            return number;
        }
    }

    private static final class Desks extends Register {
        private final int[] rights;

        Desks() {
            super(DESK, MOST_DESKS);
            rights = new int[MOST_DESKS];
            rights[enter()] = ALL_RIGHTS;
        }

        int open(int given) {
            int number = enter();
            rights[number] = given;
            return handleOf(number);
        }

        boolean hasAll(int desk, int asked) {
            return (rights[desk] & asked) == asked;
        }
    }

    private static final class Sites extends Register {
        Sites() {
            super(SITE, MOST_SITES);
        }

        int stakeOut() {
            return handleOf(enter());
        }
    }

    /**
     * Contexts with what each is above, as a set of bits that always holds what follows, too. For
     * every context and all that it is above, the first year of the lower one is not behind the
     * last year of the upper one: that is the same as that no earliest year is behind its latest.
     */
    private static final class Contexts extends Register {
        private final int[] site;
        private final int[] first;
        private final int[] last;
        private final int[] below;

        Contexts() {
            super(CONTEXT, MOST_CONTEXTS);
            site = new int[MOST_CONTEXTS];
            first = new int[MOST_CONTEXTS];
            last = new int[MOST_CONTEXTS];
            below = new int[MOST_CONTEXTS];
        }

        int dig(int ground) {
            int number = enter();
            site[number] = ground;
            first[number] = 0;
            last[number] = LAST_YEAR;
            below[number] = 0;
            return handleOf(number);
        }

        int siteOf(int layer) {
            return site[layer];
        }

        boolean isOver(int upper, int lower) {
            return (below[upper] & 1 << lower) != 0;
        }

        void putOver(int upper, int lower) {
            int under = below[lower] | 1 << lower;
            for (int layer = 0; layer < size(); layer++) {
                if (layer == upper || isOver(layer, upper)) {
                    below[layer] |= under;
                }
            }
        }

        void setSpan(int layer, int from, int to) {
            first[layer] = from;
            last[layer] = to;
        }

        int earliest(int layer) {
            return Math.max(first[layer], greatestFirstBelow(layer));
        }

        int latest(int layer) {
            return Math.min(last[layer], leastLastAbove(layer));
        }

        /** New pairs are all from the upper one on upwards with all from the lower one on down. */
        boolean yearsLetOver(int upper, int lower) {
            return earliest(lower) <= latest(upper);
        }

        /** Only the pairs that the context itself is in can change. */
        boolean yearsLetSpan(int layer, int from, int to) {
            return greatestFirstBelow(layer) <= to && from <= leastLastAbove(layer);
        }

        private int greatestFirstBelow(int layer) {
            int greatest = 0;
            for (int other = 0; other < size(); other++) {
                if (isOver(layer, other)) {
                    greatest = Math.max(greatest, first[other]);
                }
            }
            return greatest;
        }

        private int leastLastAbove(int layer) {
            int least = LAST_YEAR;
            for (int other = 0; other < size(); other++) {
                if (isOver(other, layer)) {
                    least = Math.min(least, last[other]);
                }
            }
            return least;
        }
    }

    private static final class Finds extends Register {
        private final int[] context;
        private final int[] foundOn;

        Finds() {
            super(FIND, MOST_FINDS);
            context = new int[MOST_FINDS];
            foundOn = new int[MOST_FINDS];
        }

        int bringUp(int layer, int on) {
            int number = enter();
            context[number] = layer;
            foundOn[number] = on;
            return handleOf(number);
        }

        int contextOf(int source) {
            return context[source];
        }

        int dayOf(int source) {
            return foundOn[source];
        }
    }

    /** The objects, by another name than Java's own. */
    private static final class Items extends Register {
        private final int[] find;
        private final int[] foundOn;

        Items() {
            super(OBJECT, MOST_OBJECTS);
            find = new int[MOST_OBJECTS];
            foundOn = new int[MOST_OBJECTS];
        }

        int accept(int source, int on) {
            int number = enter();
            find[number] = source;
            foundOn[number] = on;
            return handleOf(number);
        }

        boolean hasFind(int source) {
            for (int item = 0; item < size(); item++) {
                if (find[item] == source) {
                    return true;
                }
            }
            return false;
        }

        int findOf(int item) {
            return find[item];
        }

        int dayOf(int item) {
            return foundOn[item];
        }
    }

    /** The days for which moves of each object were told, in no order: twelve slots an object. */
    private static final class Moves {
        private final int[] movedOn;
        private final int[] target;
        private final int[] told;

        Moves() {
            movedOn = new int[MOST_OBJECTS * MOST_MOVES];
            target = new int[MOST_OBJECTS * MOST_MOVES];
            told = new int[MOST_OBJECTS];
        }

        boolean isFullFor(int item) {
            return told[item] >= MOST_MOVES;
        }

        boolean hasDay(int item, int on) {
            return slotOf(item, on) != NONE;
        }

        /** Only for a day that is there or behind a look at isFullFor. */
        void tell(int item, int spot, int on) {
            int slot = slotOf(item, on);
            if (slot == NONE) {
                slot = endOfSlots(item);
                told[item]++;
            }
            movedOn[slot] = on;
            target[slot] = spot;
        }

        int storeOn(int item, int on) {
            int spot = NONE;
            int latest = NONE;
            int end = endOfSlots(item);
            for (int slot = firstSlot(item); slot < end; slot++) {
                if (movedOn[slot] <= on && movedOn[slot] > latest) {
                    latest = movedOn[slot];
                    spot = target[slot];
                }
            }
            return spot;
        }

        private int slotOf(int item, int on) {
            int end = endOfSlots(item);
            for (int slot = firstSlot(item); slot < end; slot++) {
                if (movedOn[slot] == on) {
                    return slot;
                }
            }
            return NONE;
        }

        private int firstSlot(int item) {
            return item * MOST_MOVES;
        }

        private int endOfSlots(int item) {
            return firstSlot(item) + told[item];
        }
    }

    private static final class Stores extends Register {
        private final int[] parent;

        Stores() {
            super(STORE, MOST_STORES);
            parent = new int[MOST_STORES];
        }

        int build(int outer) {
            int number = enter();
            parent[number] = outer;
            return handleOf(number);
        }

        int parentOf(int inner) {
            return parent[inner];
        }

        void setParent(int inner, int outer) {
            parent[inner] = outer;
        }

        boolean isIn(int inner, int outer) {
            int at = parent[inner];
            // Rule 10 keeps the chain free of rings; the counter makes its end plain.
            for (int step = 0; step < MOST_STORES && at != NONE; step++) {
                if (at == outer) {
                    return true;
                }
                at = parent[at];
            }
            return false;
        }

        boolean isAtOrIn(int inner, int outer) {
            return inner == outer || isIn(inner, outer);
        }
    }

    private static final class Loans extends Register {
        private final int[] item;
        private final int[] from;
        private final int[] to;

        Loans() {
            super(LOAN, MOST_LOANS);
            item = new int[MOST_LOANS];
            from = new int[MOST_LOANS];
            to = new int[MOST_LOANS];
        }

        int lend(int lent, int first, int last) {
            int number = enter();
            item[number] = lent;
            from[number] = first;
            to[number] = last;
            return handleOf(number);
        }

        boolean hasDay(int number, int on) {
            return from[number] <= on && on <= to[number];
        }

        int lastDayOf(int number) {
            return to[number];
        }

        void endOn(int number, int on) {
            to[number] = on;
        }

        /** A loan that has the object on one of these days, or NONE. */
        int having(int lent, int first, int last) {
            for (int number = 0; number < size(); number++) {
                if (item[number] == lent && daysMeet(from[number], to[number], first, last)) {
                    return number;
                }
            }
            return NONE;
        }
    }

    /** Shows, each with its objects as a set of bits. */
    private static final class Shows extends Register {
        private final int[] store;
        private final int[] from;
        private final int[] to;
        private final int[] hung;

        Shows() {
            super(SHOW, MOST_SHOWS);
            store = new int[MOST_SHOWS];
            from = new int[MOST_SHOWS];
            to = new int[MOST_SHOWS];
            hung = new int[MOST_SHOWS];
        }

        int plan(int room, int first, int last) {
            int number = enter();
            store[number] = room;
            from[number] = first;
            to[number] = last;
            hung[number] = 0;
            return handleOf(number);
        }

        int storeOf(int number) {
            return store[number];
        }

        int firstDayOf(int number) {
            return from[number];
        }

        int lastDayOf(int number) {
            return to[number];
        }

        boolean holds(int number, int item) {
            return (hung[number] & 1 << item) != 0;
        }

        void putIn(int number, int item) {
            hung[number] |= 1 << item;
        }

        void putOut(int number, int item) {
            hung[number] &= ~(1 << item);
        }

        /** A show that has the object on one of these days, or NONE. */
        int having(int item, int first, int last) {
            for (int number = 0; number < size(); number++) {
                if (holds(number, item) && daysMeet(from[number], to[number], first, last)) {
                    return number;
                }
            }
            return NONE;
        }
    }

    private static final class Claims extends Register {
        private final int[] item;
        private final int[] source;
        private final boolean[] open;

        Claims() {
            super(CLAIM, MOST_CLAIMS);
            item = new int[MOST_CLAIMS];
            source = new int[MOST_CLAIMS];
            open = new boolean[MOST_CLAIMS];
        }

        int raise(int claimed, int by) {
            int number = enter();
            item[number] = claimed;
            source[number] = by;
            open[number] = true;
            return handleOf(number);
        }

        int itemOf(int number) {
            return item[number];
        }

        boolean isOpen(int number) {
            return open[number];
        }

        void settle(int number) {
            open[number] = false;
        }

        boolean hasOpenOf(int claimed, int by) {
            for (int number = 0; number < size(); number++) {
                if (open[number] && item[number] == claimed && source[number] == by) {
                    return true;
                }
            }
            return false;
        }

        int openFor(int claimed) {
            int still = 0;
            for (int number = 0; number < size(); number++) {
                if (open[number] && item[number] == claimed) {
                    still++;
                }
            }
            return still;
        }
    }
}
