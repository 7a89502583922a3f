import java.util.ArrayList;
import java.util.List;
import java.util.NoSuchElementException;
import java.util.TreeMap;

/**
 * The document a second time, for ModelTest: tellings are kept as they were told, and every answer
 * is worked out from them anew. It shares no code and no way of keeping things with MuseumHouse.
 */
final class PlainHouse {
    private record Find(int context, int day) { }

    private record Told(int upper, int lower) { }

    private static final class Layer {
        int site;
        int first = 0;
        int last = 999;
    }

    private static final class Thing {
        int find;
        int day;
        final TreeMap<Integer, Integer> storeFrom = new TreeMap<>();
    }

    private static final class Lent {
        int object;
        int from;
        int to;
    }

    private static final class Shown {
        int store;
        int from;
        int to;
        final List<Integer> objects = new ArrayList<>();
    }

    private static final class Claimed {
        int object;
        int source;
        boolean open = true;
    }

    private final List<Integer> rights = new ArrayList<>(List.of(63));
    private final List<Integer> sites = new ArrayList<>();
    private final List<Layer> layers = new ArrayList<>();
    private final List<Told> told = new ArrayList<>();
    private final List<Find> finds = new ArrayList<>();
    private final List<Thing> things = new ArrayList<>();
    private final List<Integer> parents = new ArrayList<>();
    private final List<Lent> loans = new ArrayList<>();
    private final List<Shown> shows = new ArrayList<>();
    private final List<Claimed> claims = new ArrayList<>();
    private int today = 0;
    private int rule = 0;

    private List<?> all(int kind) {
        List<List<?>> kinds =
            List.of(rights, sites, layers, finds, things, parents, loans, shows, claims);
        return kinds.get(kind - 1);
    }

    private void refuse(int by) {
        rule = by;
        if (by == 1) {
            throw new NoSuchElementException();
        }
        if (by <= 3) {
            throw new IllegalStateException();
        }
        throw new IllegalArgumentException();
    }

    private boolean isThere(int handle, int kind) {
        return handle >= 100 * kind && (long) handle < 100L * kind + all(kind).size();
    }

    private void known(int handle, int kind) {
        if (!isThere(handle, kind)) {
            refuse(1);
        }
    }

    private void may(int desk, int right) {
        if ((rights.get(desk - 100) & right) == 0) {
            refuse(2);
        }
    }

    private void room(int kind, int most) {
        if (all(kind).size() == most) {
            refuse(3);
        }
    }

    private void bounds(int number, int least, int greatest) {
        if (number < least || number > greatest) {
            refuse(4);
        }
    }

    int desk(int desk, int given) {
        known(desk, 1);
        may(desk, 1);
        room(1, 6);
        bounds(given, 0, 63);
        for (int right = 1; right < 64; right *= 2) {
            if ((given & right) != 0 && (rights.get(desk - 100) & right) == 0) {
                refuse(5);
            }
        }
        rights.add(given);
        return 99 + rights.size();
    }

    int day(int days) {
        bounds(days, 0, 1000);
        bounds(today + days, 0, 9999);
        today += days;
        return today;
    }

    int site(int desk) {
        known(desk, 1);
        may(desk, 2);
        room(2, 4);
        sites.add(0);
        return 199 + sites.size();
    }

    int context(int desk, int site) {
        known(desk, 1);
        known(site, 2);
        may(desk, 2);
        room(3, 20);
        Layer layer = new Layer();
        layer.site = site;
        layers.add(layer);
        return 299 + layers.size();
    }

    private boolean reaches(int upper, int lower) {
        for (Told pair : told) {
            if (pair.upper == upper && (pair.lower == lower || reaches(pair.lower, lower))) {
                return true;
            }
        }
        return false;
    }

    private int earliestOf(int context) {
        int year = layers.get(context - 300).first;
        for (int other = 300; other < 300 + layers.size(); other++) {
            if (reaches(context, other) && layers.get(other - 300).first > year) {
                year = layers.get(other - 300).first;
            }
        }
        return year;
    }

    private int latestOf(int context) {
        int year = layers.get(context - 300).last;
        for (int other = 300; other < 300 + layers.size(); other++) {
            if (reaches(other, context) && layers.get(other - 300).last < year) {
                year = layers.get(other - 300).last;
            }
        }
        return year;
    }

    private boolean yearsFit() {
        for (int context = 300; context < 300 + layers.size(); context++) {
            if (earliestOf(context) > latestOf(context)) {
                return false;
            }
        }
        return true;
    }

    boolean above(int desk, int a, int b) {
        known(desk, 1);
        known(a, 3);
        known(b, 3);
        may(desk, 2);
        if (layers.get(a - 300).site != layers.get(b - 300).site) {
            refuse(6);
        }
        if (a == b || reaches(b, a)) {
            refuse(7);
        }
        if (reaches(a, b)) {
            return false;
        }
        told.add(new Told(a, b));
        if (!yearsFit()) {
            told.remove(told.size() - 1);
            refuse(8);
        }
        return true;
    }

    int span(int desk, int context, int first, int last) {
        known(desk, 1);
        known(context, 3);
        may(desk, 2);
        bounds(first, 0, 999);
        bounds(last, first, 999);
        Layer layer = layers.get(context - 300);
        int wasFirst = layer.first;
        int wasLast = layer.last;
        layer.first = first;
        layer.last = last;
        if (!yearsFit()) {
            layer.first = wasFirst;
            layer.last = wasLast;
            refuse(8);
        }
        return earliestOf(context);
    }

    boolean isAbove(int a, int b) {
        known(a, 3);
        known(b, 3);
        return reaches(a, b);
    }

    int year(int context, int end) {
        known(context, 3);
        bounds(end, 0, 1);
        return end == 0 ? earliestOf(context) : latestOf(context);
    }

    int find(int desk, int context, int day) {
        known(desk, 1);
        known(context, 3);
        may(desk, 2);
        room(4, 30);
        bounds(day, 0, today);
        finds.add(new Find(context, day));
        return 399 + finds.size();
    }

    int object(int desk, int find) {
        known(desk, 1);
        known(find, 4);
        may(desk, 4);
        room(5, 30);
        for (Thing other : things) {
            if (other.find == find) {
                refuse(9);
            }
        }
        Thing thing = new Thing();
        thing.find = find;
        thing.day = finds.get(find - 400).day;
        things.add(thing);
        return 499 + things.size();
    }

    int store(int desk, int parent) {
        known(desk, 1);
        if (parent != 0) {
            known(parent, 6);
        }
        may(desk, 4);
        room(6, 16);
        parents.add(parent);
        return 599 + parents.size();
    }

    private boolean inside(int store, int other) {
        int parent = parents.get(store - 600);
        return parent != 0 && (parent == other || inside(parent, other));
    }

    boolean carry(int desk, int store, int parent) {
        known(desk, 1);
        known(store, 6);
        if (parent != 0) {
            known(parent, 6);
        }
        may(desk, 4);
        if (parent == store || parent != 0 && inside(parent, store)) {
            refuse(10);
        }
        return parents.set(store - 600, parent) != parent;
    }

    boolean within(int store, int other) {
        known(store, 6);
        known(other, 6);
        return inside(store, other);
    }

    private int loanOn(int object, int day) {
        for (int number = 0; number < loans.size(); number++) {
            Lent loan = loans.get(number);
            if (loan.object == object && day >= loan.from && day <= loan.to) {
                return 700 + number;
            }
        }
        return 0;
    }

    private int showOn(int object, int day) {
        for (int number = 0; number < shows.size(); number++) {
            Shown show = shows.get(number);
            if (show.objects.contains(object) && day >= show.from && day <= show.to) {
                return 800 + number;
            }
        }
        return 0;
    }

    boolean move(int desk, int object, int store, int day) {
        known(desk, 1);
        known(object, 5);
        known(store, 6);
        may(desk, 4);
        Thing thing = things.get(object - 500);
        if (thing.storeFrom.size() == 12 && !thing.storeFrom.containsKey(day)) {
            refuse(3);
        }
        bounds(day, 0, today);
        if (day < thing.day) {
            refuse(11);
        }
        if (loanOn(object, day) != 0) {
            refuse(12);
        }
        return thing.storeFrom.put(day, store) == null;
    }

    private int placeOn(int object, int day) {
        var entry = things.get(object - 500).storeFrom.floorEntry(day);
        return entry == null ? 0 : entry.getValue();
    }

    int place(int object, int day) {
        known(object, 5);
        bounds(day, 0, 9999);
        return placeOn(object, day);
    }

    int stored(int store, int day) {
        known(store, 6);
        bounds(day, 0, 9999);
        int held = 0;
        for (int object = 500; object < 500 + things.size(); object++) {
            int place = placeOn(object, day);
            held += place != 0 && (place == store || inside(place, store)) ? 1 : 0;
        }
        return held;
    }

    private boolean hasOpen(int object) {
        return claims.stream().anyMatch(claim -> claim.open && claim.object == object);
    }

    private void free(int object, int from, int to) {
        if (from < things.get(object - 500).day) {
            refuse(11);
        }
        if (hasOpen(object)) {
            refuse(13);
        }
        for (int day = from; day <= to; day++) {
            if (loanOn(object, day) != 0 || showOn(object, day) != 0) {
                refuse(14);
            }
        }
    }

    int loan(int desk, int object, int from, int to) {
        known(desk, 1);
        known(object, 5);
        may(desk, 8);
        room(7, 40);
        bounds(from, 0, 9999);
        bounds(to, from, 9999);
        free(object, from, to);
        Lent loan = new Lent();
        loan.object = object;
        loan.from = from;
        loan.to = to;
        loans.add(loan);
        return 699 + loans.size();
    }

    int back(int desk, int loan, int day) {
        known(desk, 1);
        known(loan, 7);
        may(desk, 8);
        bounds(day, 0, 9999);
        Lent lent = loans.get(loan - 700);
        if (day < lent.from || day > lent.to) {
            refuse(15);
        }
        int last = lent.to;
        lent.to = day;
        return last;
    }

    int show(int desk, int store, int from, int to) {
        known(desk, 1);
        known(store, 6);
        may(desk, 16);
        room(8, 10);
        bounds(from, 0, 9999);
        bounds(to, from, 9999);
        Shown show = new Shown();
        show.store = store;
        show.from = from;
        show.to = to;
        shows.add(show);
        return 799 + shows.size();
    }

    boolean hang(int desk, int show, int object) {
        known(desk, 1);
        known(show, 8);
        known(object, 5);
        may(desk, 16);
        Shown shown = shows.get(show - 800);
        if (shown.objects.contains(object)) {
            return false;
        }
        free(object, shown.from, shown.to);
        shown.objects.add(object);
        return true;
    }

    boolean take(int desk, int show, int object) {
        known(desk, 1);
        known(show, 8);
        known(object, 5);
        may(desk, 16);
        return shows.get(show - 800).objects.remove((Integer) object);
    }

    int claim(int desk, int object, int source) {
        known(desk, 1);
        known(object, 5);
        may(desk, 32);
        room(9, 20);
        bounds(source, 0, 9);
        for (Claimed other : claims) {
            if (other.open && other.object == object && other.source == source) {
                refuse(16);
            }
        }
        Claimed claim = new Claimed();
        claim.object = object;
        claim.source = source;
        claims.add(claim);
        return 899 + claims.size();
    }

    int close(int desk, int claim) {
        known(desk, 1);
        known(claim, 9);
        may(desk, 32);
        Claimed claimed = claims.get(claim - 900);
        if (!claimed.open) {
            refuse(17);
        }
        claimed.open = false;
        return (int) claims.stream()
            .filter(other -> other.open && other.object == claimed.object).count();
    }

    int where(int object, int day) {
        known(object, 5);
        bounds(day, 0, 9999);
        if (day < things.get(object - 500).day) {
            return 0;
        }
        if (loanOn(object, day) != 0) {
            return loanOn(object, day);
        }
        if (showOn(object, day) != 0) {
            return showOn(object, day);
        }
        return placeOn(object, day) == 0 ? 1 : placeOn(object, day);
    }

    int origin(int handle) {
        if (isThere(handle, 3)) {
            return layers.get(handle - 300).site;
        }
        if (isThere(handle, 4)) {
            return finds.get(handle - 400).context;
        }
        known(handle, 5);
        return things.get(handle - 500).find;
    }

    int hall(int show) {
        known(show, 8);
        return shows.get(show - 800).store;
    }

    int rule() {
        return rule;
    }

    int count(int kind) {
        if (kind < 1 || kind > 9) {
            throw new NoSuchElementException();
        }
        return all(kind).size();
    }
}
