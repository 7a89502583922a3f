import java.util.List;
import java.util.Map;
import java.util.function.ObjIntConsumer;

/** Houses that several tests begin with, and the calls by which they are tried. */
final class Houses {
    /** One handle of a call is left open: its kind, and for a desk the right that is asked. */
    record Slot(String name, int kind, int right, ObjIntConsumer<MuseumHouse> call) {
    }

    /** One number of a call is left open: the least and the greatest that are within bounds. */
    record Bounds(String name, int least, int most, ObjIntConsumer<MuseumHouse> call) {
    }

    static final int[] MOST = {0, 6, 4, 20, 30, 30, 16, 40, 10, 20};

    /** Each is answered in the furnished house if desk 100 asks. */
    static final Slot[] DESK_SLOTS = {
        new Slot("desk", 1, 1, (h, x) -> h.desk(x, 0)),
        new Slot("site", 1, 2, (h, x) -> h.site(x)),
        new Slot("context", 1, 2, (h, x) -> h.context(x, 200)),
        new Slot("above", 1, 2, (h, x) -> h.above(x, 301, 302)),
        new Slot("span", 1, 2, (h, x) -> h.span(x, 302, 1, 2)),
        new Slot("find", 1, 2, (h, x) -> h.find(x, 300, 1)),
        new Slot("object", 1, 4, (h, x) -> h.object(x, 403)),
        new Slot("store", 1, 4, (h, x) -> h.store(x, 0)),
        new Slot("carry", 1, 4, (h, x) -> h.carry(x, 602, 0)),
        new Slot("move", 1, 4, (h, x) -> h.move(x, 502, 600, 50)),
        new Slot("loan", 1, 8, (h, x) -> h.loan(x, 502, 50, 59)),
        new Slot("back", 1, 8, (h, x) -> h.back(x, 700, 35)),
        new Slot("show", 1, 16, (h, x) -> h.show(x, 600, 50, 60)),
        new Slot("hang", 1, 16, (h, x) -> h.hang(x, 802, 502)),
        new Slot("hang again", 1, 16, (h, x) -> h.hang(x, 800, 500)),
        new Slot("take", 1, 16, (h, x) -> h.take(x, 800, 500)),
        new Slot("take again", 1, 16, (h, x) -> h.take(x, 800, 502)),
        new Slot("claim", 1, 32, (h, x) -> h.claim(x, 502, 1)),
        new Slot("close", 1, 32, (h, x) -> h.close(x, 900)),
    };

    static final Slot[] OTHER_SLOTS = {
        new Slot("context's site", 2, 0, (h, x) -> h.context(100, x)),
        new Slot("above's a", 3, 0, (h, x) -> h.above(100, x, 302)),
        new Slot("above's b", 3, 0, (h, x) -> h.above(100, 302, x)),
        new Slot("span's context", 3, 0, (h, x) -> h.span(100, x, 1, 2)),
        new Slot("isAbove's a", 3, 0, (h, x) -> h.isAbove(x, 300)),
        new Slot("isAbove's b", 3, 0, (h, x) -> h.isAbove(300, x)),
        new Slot("year's context", 3, 0, (h, x) -> h.year(x, 0)),
        new Slot("find's context", 3, 0, (h, x) -> h.find(100, x, 1)),
        new Slot("object's find", 4, 0, (h, x) -> h.object(100, x)),
        new Slot("carry's store", 6, 0, (h, x) -> h.carry(100, x, 0)),
        new Slot("within's store", 6, 0, (h, x) -> h.within(x, 600)),
        new Slot("within's other", 6, 0, (h, x) -> h.within(600, x)),
        new Slot("move's object", 5, 0, (h, x) -> h.move(100, x, 600, 45)),
        new Slot("move's store", 6, 0, (h, x) -> h.move(100, 502, x, 45)),
        new Slot("place's object", 5, 0, (h, x) -> h.place(x, 45)),
        new Slot("stored's store", 6, 0, (h, x) -> h.stored(x, 45)),
        new Slot("loan's object", 5, 0, (h, x) -> h.loan(100, x, 80, 90)),
        new Slot("back's loan", 7, 0, (h, x) -> h.back(100, x, 35)),
        new Slot("show's store", 6, 0, (h, x) -> h.show(100, x, 80, 90)),
        new Slot("hang's show", 8, 0, (h, x) -> h.hang(100, x, 502)),
        new Slot("hang's object", 5, 0, (h, x) -> h.hang(100, 802, x)),
        new Slot("take's show", 8, 0, (h, x) -> h.take(100, x, 500)),
        new Slot("take's object", 5, 0, (h, x) -> h.take(100, 800, x)),
        new Slot("claim's object", 5, 0, (h, x) -> h.claim(100, x, 1)),
        new Slot("close's claim", 9, 0, (h, x) -> h.close(100, x)),
        new Slot("where's object", 5, 0, (h, x) -> h.where(x, 45)),
        new Slot("hall's show", 8, 0, (h, x) -> h.hall(x)),
    };

    /** Where 0 stands for no store. */
    static final Slot[] PARENT_SLOTS = {
        new Slot("store's parent", 6, 0, (h, x) -> h.store(100, x)),
        new Slot("carry's parent", 6, 0, (h, x) -> h.carry(100, 602, x)),
    };

    /** In the furnished house, whose today is 100; both bounds are answered there. */
    static final Bounds[] NUMBERS = {
        new Bounds("desk's rights", 0, 63, (h, x) -> h.desk(100, x)),
        new Bounds("day's days", 0, 1000, (h, x) -> h.day(x)),
        new Bounds("span's first", 0, 999, (h, x) -> h.span(100, 302, x, 999)),
        new Bounds("span's last", 0, 999, (h, x) -> h.span(100, 302, 0, x)),
        new Bounds("year's end", 0, 1, (h, x) -> h.year(300, x)),
        new Bounds("find's day", 0, 100, (h, x) -> h.find(100, 300, x)),
        new Bounds("move's day", 0, 100, (h, x) -> h.move(100, 501, 600, x)),
        new Bounds("place's day", 0, 9999, (h, x) -> h.place(500, x)),
        new Bounds("stored's day", 0, 9999, (h, x) -> h.stored(600, x)),
        new Bounds("loan's days", 0, 9999, (h, x) -> h.loan(100, 501, x, x)),
        new Bounds("loan's from", 0, 49, (h, x) -> h.loan(100, 501, x, 49)),
        new Bounds("loan's to", 61, 9999, (h, x) -> h.loan(100, 501, 61, x)),
        new Bounds("show's days", 0, 9999, (h, x) -> h.show(100, 600, x, x)),
        new Bounds("show's from", 0, 9999, (h, x) -> h.show(100, 600, x, 9999)),
        new Bounds("show's to", 0, 9999, (h, x) -> h.show(100, 600, 0, x)),
        new Bounds("claim's source", 0, 9, (h, x) -> h.claim(100, 502, x)),
        new Bounds("where's day", 0, 9999, (h, x) -> h.where(500, x)),
    };

    /** The rules by which each call may be refused; those that are not here never are by one. */
    static final Map<String, List<Integer>> REFUSED_BY = Map.ofEntries(
        Map.entry("desk", List.of(1, 2, 3, 4, 5)), Map.entry("day", List.of(4)),
        Map.entry("site", List.of(1, 2, 3)), Map.entry("context", List.of(1, 2, 3)),
        Map.entry("above", List.of(1, 2, 6, 7, 8)), Map.entry("span", List.of(1, 2, 4, 8)),
        Map.entry("isAbove", List.of(1)), Map.entry("year", List.of(1, 4)),
        Map.entry("find", List.of(1, 2, 3, 4)), Map.entry("object", List.of(1, 2, 3, 9)),
        Map.entry("store", List.of(1, 2, 3)), Map.entry("carry", List.of(1, 2, 10)),
        Map.entry("within", List.of(1)), Map.entry("move", List.of(1, 2, 3, 4, 11, 12)),
        Map.entry("place", List.of(1, 4)), Map.entry("stored", List.of(1, 4)),
        Map.entry("loan", List.of(1, 2, 3, 4, 11, 13, 14)),
        Map.entry("back", List.of(1, 2, 4, 15)), Map.entry("show", List.of(1, 2, 3, 4)),
        Map.entry("hang", List.of(1, 2, 11, 13, 14)), Map.entry("take", List.of(1, 2)),
        Map.entry("claim", List.of(1, 2, 3, 4, 16)), Map.entry("close", List.of(1, 2, 17)),
        Map.entry("where", List.of(1, 4)), Map.entry("origin", List.of(1)),
        Map.entry("hall", List.of(1)));

    private Houses() {
    }

    /**
     * Desk 101 without rights and 102 with right 1; contexts 300 over 301, and 302, of site 200,
     * 303 of site 201; object 500 of day 10 with places, a loan, a show and an open claim; 501 of
     * day 0 with a loan alone; 502 of day 20 with nothing; find 403 is no object; today is 100.
     */
    static Told furnished() {
        return new Told().tell(h -> h.desk(100, 0)).tell(h -> h.desk(100, 1))
            .times(2, (h, n) -> h.site(100))
            .times(3, (h, n) -> h.context(100, 200)).tell(h -> h.context(100, 201))
            .tell(h -> h.above(100, 300, 301)).tell(h -> h.span(100, 301, 500, 600))
            .daysTo(100)
            .tell(h -> h.find(100, 300, 10)).tell(h -> h.find(100, 301, 0))
            .tell(h -> h.find(100, 303, 20)).tell(h -> h.find(100, 303, 30))
            .times(3, (h, n) -> h.object(100, 400 + n))
            .tell(h -> h.store(100, 0)).tell(h -> h.store(100, 600)).tell(h -> h.store(100, 601))
            .tell(h -> h.move(100, 500, 602, 10)).tell(h -> h.move(100, 500, 600, 50))
            .tell(h -> h.loan(100, 500, 30, 40)).tell(h -> h.loan(100, 501, 50, 60))
            .tell(h -> h.show(100, 600, 20, 25)).tell(h -> h.show(100, 601, 5, 40))
            .tell(h -> h.show(100, 601, 60, 70)).tell(h -> h.hang(100, 800, 500))
            .tell(h -> h.claim(100, 500, 3)).tell(h -> h.claim(100, 501, 4))
            .tell(h -> h.close(100, 901));
    }

    /** Site 200, so many contexts 300 .. of it, nothing told of them. */
    static Told dug(int contexts) {
        return new Told().tell(h -> h.site(100)).times(contexts, (h, n) -> h.context(100, 200));
    }

    /** Objects 500 .. of finds of day 10, stores 600 .. in none; today is 100. */
    static Told kept(int objects, int stores) {
        return dug(1).daysTo(100)
            .times(objects, (h, n) -> h.find(100, 300, 10))
            .times(objects, (h, n) -> h.object(100, 400 + n))
            .times(stores, (h, n) -> h.store(100, 0));
    }

    /** All that is needed to make as many of a kind as there may be, and one more, by make. */
    static Told readyFor(int kind) {
        switch (kind) {
            case 1: case 2: case 6: return new Told();
            case 3: return new Told().tell(h -> h.site(100));
            case 4: return dug(1);
            case 5: return dug(1).times(30, (h, n) -> h.find(100, 300, 0));
            default: return kept(3, 1);
        }
    }

    /** One more of a kind, the one with this number. */
    static int make(MuseumHouse h, int kind, int number) {
        switch (kind) {
            case 1: return h.desk(100, 63);
            case 2: return h.site(100);
            case 3: return h.context(100, 200);
            case 4: return h.find(100, 300, 0);
            case 5: return h.object(100, 400 + number % 30);
            case 6: return h.store(100, 0);
            case 7: return h.loan(100, 500, 10 + number, 10 + number);
            case 8: return h.show(100, 600, 10 + number, 10 + number);
            default: return h.claim(100, 500 + number / 10, number % 10);
        }
    }

    /** A call with a handle of the kind, that is refused by rule 1 if the handle is not there. */
    static void name(MuseumHouse h, int kind, int handle) {
        switch (kind) {
            case 1: h.desk(handle, 64); break;
            case 2: h.context(100, handle); break;
            case 3: h.year(handle, 0); break;
            case 4: h.object(100, handle); break;
            case 5: h.place(handle, 0); break;
            case 6: h.stored(handle, 0); break;
            case 7: h.back(100, handle, 0); break;
            case 8: h.hall(handle); break;
            default: h.close(100, handle); break;
        }
    }

    /** Handles that are none of the kind, if so many of it were made. */
    static int[] wrongHandles(int kind, int made) {
        int first = 100 * kind;
        return new int[] {
            0, 1, -1, kind, first - 1, first + made, first + 99, first - 100, first + 100, -first,
            first + 256, first + 65536, first + Integer.MIN_VALUE, Integer.MAX_VALUE,
            Integer.MAX_VALUE - first, Integer.MIN_VALUE, Integer.MIN_VALUE + 1, first * 100
        };
    }
}
