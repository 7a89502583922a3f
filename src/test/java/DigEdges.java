/** The sentences of promises 1 to 10: a new house, desks, days, sites, contexts and finds. */
final class DigEdges {
    private static final int[] ENDS = {Integer.MIN_VALUE, Integer.MAX_VALUE};

    private DigEdges() {
    }

    static void run() {
        Checks.about("Promise 1", "Desk 100, day 0; nothing refused.", DigEdges::newHouse);
        Checks.about("Promise 2", "A desk with rights 0 .. 63: its handle", DigEdges::desk);
        Checks.about("Promise 2", "(right 1; rule 5).", DigEdges::deskIsRefused);
        Checks.about("Promise 3", "Days go by, 0 .. 1000 of them, up to 9999: today then.",
            DigEdges::day);
        Checks.about("Promise 3", "IllegalArgumentException: rule 4.", DigEdges::dayIsRefused);
        Checks.about("Promise 4", "A site (right 2).", DigEdges::site);
        Checks.about("Promise 5", "A context of a site (right 2).", DigEdges::context);
        Checks.about("Promise 6", "A context is above another one (right 2; rules 6, 7, 8)",
            DigEdges::aboveIsRefused);
        Checks.about("Promise 6", "whether that did not follow before.", DigEdges::above);
        Checks.about("Promise 7", "A context's first and last year, 0 <= first <= last <= 999",
            DigEdges::yearsOfSpan);
        Checks.about("Promise 7", "(right 2; rule 8)", DigEdges::spanIsRefused);
        Checks.about("Promise 7", "its earliest year then.", DigEdges::spanTellsEarliest);
        Checks.about("Promise 8", "Whether a context is above another one.", DigEdges::isAbove);
        Checks.about("Promise 9", "A context's earliest (end 0) or latest (1) year.",
            DigEdges::year);
        Checks.about("Promise 9", "IllegalArgumentException: rule 4.", DigEdges::yearIsRefused);
        Checks.about("Promise 10", "A find of a context, of a day not behind today (right 2).",
            DigEdges::find);
    }

    private static void newHouse() {
        Told t = new Told().asked(0, MuseumHouse::rule).asked(0, h -> h.day(0))
            .asked(1, h -> h.count(1));
        for (int kind = 1; kind <= 9; kind++) {
            int of = kind;
            if (kind > 1) {
                t.asked(0, h -> h.count(of));
            }
            t.isThere(kind == 1, h -> Houses.name(h, of, 100 * of));
            t.isThere(false, h -> Houses.name(h, of, 100 * of + 1));
        }
        t.refused(1, h -> h.site(101)).refused(1, h -> h.site(99)).gives(101, h -> h.desk(100, 63));
        // Nothing of one house is in another one.
        MuseumHouse used = Houses.furnished().again();
        Checks.told(() -> used.day(-1));
        Checks.due(4, used::rule);
        new Told().asked(0, MuseumHouse::rule).asked(0, h -> h.day(0)).asked(0, h -> h.count(5));
    }

    /** What a new desk may give on is what it has: all of 0 .. 63, by each desk with right 1. */
    private static void desk() {
        for (int rights = 0; rights <= 63; rights++) {
            int given = rights;
            Told t = new Told().gives(101, h -> h.desk(100, given));
            for (int on = 0; on <= 63; on++) {
                int more = on;
                int rule = (given & 1) == 0 ? 2 : (more & ~given) != 0 ? 5 : 0;
                MuseumHouse h = t.again();
                String due = rule == 0 ? "102" : Checks.exceptionOf(rule);
                Checks.equal(due, Checks.told(() -> h.desk(101, more)));
                Checks.due(rule, h::rule);
            }
        }
        Told t = new Told();
        for (int rights : new int[] {-1, 64, 65, 127, 128, 256, -64, 63 - 128}) {
            t.refused(4, h -> h.desk(100, rights));
        }
        for (int rights : ENDS) {
            t.refused(4, h -> h.desk(100, rights)).refused(4, h -> h.desk(100, rights + 1));
            t.refused(4, h -> h.desk(100, rights - 1)).refused(4, h -> h.desk(100, rights ^ 63));
        }
        t.gives(101, h -> h.desk(100, 0)).gives(102, h -> h.desk(100, 63));
        t.gives(103, h -> h.desk(102, 63)).gives(104, h -> h.desk(103, 1));
        t.gives(105, h -> h.desk(104, 1)).refused(3, h -> h.desk(105, 1)).asked(6, h -> h.count(1));
    }

    private static void deskIsRefused() {
        Told t = new Told().gives(101, h -> h.desk(100, 62)).gives(102, h -> h.desk(100, 1));
        t.refused(2, h -> h.desk(101, 0)).refused(2, h -> h.desk(101, 62));
        t.refused(2, h -> h.desk(101, 64)).refused(5, h -> h.desk(102, 2));
        t.refused(5, h -> h.desk(102, 32)).refused(5, h -> h.desk(102, 33));
        t.refused(5, h -> h.desk(102, 63)).refused(1, h -> h.desk(103, 0));
        t.gives(103, h -> h.desk(102, 0)).refused(2, h -> h.desk(103, 0));
    }

    private static void day() {
        new Told().gives(0, h -> h.day(0)).gives(1, h -> h.day(1)).gives(1, h -> h.day(0))
            .gives(1000, h -> h.day(999)).gives(2000, h -> h.day(1000));
        new Told().gives(1000, h -> h.day(1000));
        new Told().daysTo(8998).gives(9998, h -> h.day(1000)).gives(9999, h -> h.day(1))
            .gives(9999, h -> h.day(0));
        new Told().daysTo(8999).gives(9999, h -> h.day(1000)).gives(9999, h -> h.day(0));
        new Told().daysTo(9000).gives(9999, h -> h.day(999)).gives(9999, h -> h.day(0));
        // What a find may be of goes by today.
        Houses.dug(1).daysTo(9999).gives(400, h -> h.find(100, 300, 9999));
    }

    private static void dayIsRefused() {
        int[] wrong = {-1, 1001, -1000, -9999, 10000, 65536, -65536};
        for (int today : new int[] {0, 1, 5000, 9999}) {
            Told t = new Told().daysTo(today);
            for (int days : wrong) {
                t.refused(4, h -> h.day(days));
            }
            for (int days : ENDS) {
                t.refused(4, h -> h.day(days)).refused(4, h -> h.day(days - today));
            }
            t.gives(today, h -> h.day(0));
        }
        new Told().daysTo(9000).refused(4, h -> h.day(1000)).gives(9000, h -> h.day(0));
        new Told().daysTo(9998).refused(4, h -> h.day(2)).gives(9999, h -> h.day(1))
            .refused(4, h -> h.day(1)).refused(4, h -> h.day(1000)).gives(9999, h -> h.day(0));
    }

    private static void site() {
        Told t = new Told().tell(h -> h.desk(100, 61)).tell(h -> h.desk(100, 2));
        t.refused(1, h -> h.context(100, 200)).refused(2, h -> h.site(101));
        t.refused(1, h -> h.site(103)).refused(1, h -> h.site(200));
        t.gives(200, h -> h.site(102)).refused(1, h -> h.context(100, 201));
        t.gives(201, h -> h.site(100)).gives(202, h -> h.site(102)).gives(203, h -> h.site(100));
        t.refused(3, h -> h.site(100)).refused(3, h -> h.site(102)).refused(2, h -> h.site(101));
        t.asked(4, h -> h.count(2)).gives(300, h -> h.context(100, 203));
    }

    private static void context() {
        Told t = new Told().refused(1, h -> h.context(100, 200)).times(4, (h, n) -> h.site(100))
            .tell(h -> h.desk(100, 61)).tell(h -> h.desk(100, 2));
        t.refused(2, h -> h.context(101, 200)).refused(1, h -> h.context(101, 204));
        t.refused(1, h -> h.context(100, 199)).refused(1, h -> h.context(100, 300));
        for (int number = 0; number < 20; number++) {
            int due = 300 + number;
            int site = 200 + number % 4;
            t.gives(due, h -> h.context(102, site)).asked(site, h -> h.origin(due));
        }
        t.refused(3, h -> h.context(100, 200)).refused(3, h -> h.context(100, 203));
        t.asked(20, h -> h.count(3)).asked(203, h -> h.origin(319));
    }

    private static void aboveIsRefused() {
        Told t = Houses.furnished();
        t.refused(2, h -> h.above(102, 301, 302)).refused(1, h -> h.above(100, 301, 304));
        t.refused(1, h -> h.above(100, 304, 301)).refused(1, h -> h.above(103, 301, 302));
        t.refused(6, h -> h.above(100, 302, 303)).refused(6, h -> h.above(100, 303, 302));
        t.refused(7, h -> h.above(100, 302, 302)).refused(7, h -> h.above(100, 303, 303));
        t.refused(7, h -> h.above(100, 301, 300));
        t.tell(h -> h.span(100, 302, 0, 499)).refused(8, h -> h.above(100, 302, 301));
        t.refused(8, h -> h.above(100, 302, 300)).tell(h -> h.span(100, 302, 0, 500));
        t.gives(true, h -> h.above(100, 302, 301)).asked(500, h -> h.year(301, 1));
    }

    private static void above() {
        Told t = Houses.dug(5).gives(true, h -> h.above(100, 300, 301))
            .gives(false, h -> h.above(100, 300, 301)).gives(true, h -> h.above(100, 302, 303));
        t.gives(true, h -> h.above(100, 301, 302)).gives(false, h -> h.above(100, 300, 303));
        t.gives(false, h -> h.above(100, 300, 302)).gives(false, h -> h.above(100, 301, 303));
        t.gives(true, h -> h.above(100, 304, 303)).gives(true, h -> h.above(100, 300, 304));
        t.gives(false, h -> h.above(100, 300, 304)).asked(false, h -> h.isAbove(301, 304));
        // What followed and was told then is no other thing.
        t.changesNothing(h -> h.above(100, 300, 303));
        // A refused telling is none.
        Told refused = Houses.dug(2).tell(h -> h.span(100, 300, 0, 0))
            .tell(h -> h.span(100, 301, 1, 1)).refused(8, h -> h.above(100, 300, 301));
        refused.tell(h -> h.span(100, 301, 0, 1)).gives(true, h -> h.above(100, 300, 301));
    }

    private static void yearsOfSpan() {
        int[][] right = {{0, 999}, {0, 0}, {999, 999}, {0, 1}, {998, 999}, {500, 500}};
        Told t = Houses.dug(1);
        for (int[] years : right) {
            t.gives(years[0], h -> h.span(100, 300, years[0], years[1]));
            t.asked(years[0], h -> h.year(300, 0)).asked(years[1], h -> h.year(300, 1));
        }
        int[][] wrong = {
            {-1, 999}, {-1, -1}, {0, 1000}, {999, 1000}, {1000, 1000}, {1, 0}, {999, 998}, {0, -1},
            {999, 0}, {Integer.MIN_VALUE, Integer.MAX_VALUE},
            {Integer.MAX_VALUE, Integer.MIN_VALUE}, {0, Integer.MAX_VALUE},
            {0, Integer.MIN_VALUE}, {Integer.MIN_VALUE, 0},
            {Integer.MAX_VALUE, 999}, {Integer.MIN_VALUE, Integer.MIN_VALUE},
            {Integer.MAX_VALUE, Integer.MAX_VALUE}
        };
        for (int[] years : wrong) {
            t.refused(4, h -> h.span(100, 300, years[0], years[1]));
        }
        t.asked(500, h -> h.year(300, 0)).asked(500, h -> h.year(300, 1));
    }

    private static void spanIsRefused() {
        Told t = Houses.furnished();
        t.refused(2, h -> h.span(102, 302, 1, 2)).refused(1, h -> h.span(100, 304, 1, 2));
        t.refused(1, h -> h.span(103, 302, 1, 2)).refused(8, h -> h.span(100, 300, 0, 499));
        t.gives(500, h -> h.span(100, 300, 0, 500)).refused(8, h -> h.span(100, 301, 501, 501));
        t.refused(8, h -> h.span(100, 301, 999, 999)).gives(500, h -> h.span(100, 301, 500, 999));
        // Both ends are told anew at once: what would not fit with the old ones may fit.
        t.gives(10, h -> h.span(100, 301, 10, 20)).gives(10, h -> h.span(100, 300, 0, 10));
        t.refused(8, h -> h.span(100, 300, 0, 9)).gives(0, h -> h.span(100, 301, 0, 0));
        t.gives(0, h -> h.span(100, 300, 0, 0)).asked(0, h -> h.year(301, 1));
    }

    private static void spanTellsEarliest() {
        Told t = Houses.dug(3).tell(h -> h.above(100, 300, 301)).tell(h -> h.above(100, 301, 302));
        t.gives(7, h -> h.span(100, 302, 7, 99)).gives(7, h -> h.span(100, 300, 6, 99));
        t.gives(7, h -> h.span(100, 300, 7, 99)).gives(8, h -> h.span(100, 300, 8, 99));
        t.gives(9, h -> h.span(100, 301, 9, 99)).asked(9, h -> h.year(300, 0));
        t.gives(7, h -> h.span(100, 301, 0, 99)).asked(8, h -> h.year(300, 0));
        // Those that are above it don't count.
        t.gives(0, h -> h.span(100, 302, 0, 99));
    }

    private static void isAbove() {
        Told t = Houses.furnished();
        t.asked(true, h -> h.isAbove(300, 301)).asked(false, h -> h.isAbove(301, 300));
        t.asked(false, h -> h.isAbove(300, 300)).asked(false, h -> h.isAbove(303, 303));
        t.asked(false, h -> h.isAbove(300, 302)).asked(false, h -> h.isAbove(300, 303));
        t.refused(1, h -> h.isAbove(300, 304)).refused(1, h -> h.isAbove(304, 300));
        t.refused(1, h -> h.isAbove(304, 304)).refused(1, h -> h.isAbove(299, 300));
        t.refused(1, h -> h.isAbove(300, 299)).refused(1, h -> h.isAbove(300, 200));
        new Told().refused(1, h -> h.isAbove(300, 300));
    }

    private static void year() {
        Told t = Houses.furnished().asked(500, h -> h.year(300, 0)).asked(999, h -> h.year(300, 1));
        t.asked(500, h -> h.year(301, 0)).asked(600, h -> h.year(301, 1));
        t.tell(h -> h.span(100, 300, 0, 500)).asked(500, h -> h.year(301, 1));
        t.asked(0, h -> h.year(303, 0)).asked(999, h -> h.year(303, 1));
    }

    private static void yearIsRefused() {
        Told t = Houses.furnished();
        for (int end : new int[] {-1, 2, 3, 256, 65536, Integer.MIN_VALUE, Integer.MAX_VALUE}) {
            t.refused(4, h -> h.year(300, end)).refused(1, h -> h.year(304, end));
        }
        t.refused(1, h -> h.year(304, 0)).refused(1, h -> h.year(299, 1));
    }

    private static void find() {
        Told t = Houses.dug(2).tell(h -> h.desk(100, 61)).gives(400, h -> h.find(100, 300, 0));
        t.refused(4, h -> h.find(100, 300, 1)).tell(h -> h.day(50));
        t.gives(401, h -> h.find(100, 301, 50)).gives(402, h -> h.find(100, 301, 49));
        t.gives(403, h -> h.find(100, 301, 0)).refused(4, h -> h.find(100, 300, 51));
        t.refused(4, h -> h.find(100, 300, 9999)).refused(4, h -> h.find(100, 300, 10000));
        t.refused(4, h -> h.find(100, 300, -1)).refused(2, h -> h.find(101, 300, 0));
        t.refused(1, h -> h.find(100, 302, 0)).refused(1, h -> h.find(102, 300, 0));
        for (int day : ENDS) {
            t.refused(4, h -> h.find(100, 300, day));
        }
        t.times(26, (h, n) -> h.find(100, 300, n)).asked(30, h -> h.count(4));
        t.refused(3, h -> h.find(100, 300, 0)).refused(3, h -> h.find(100, 300, 51));
        t.asked(300, h -> h.origin(429)).asked(301, h -> h.origin(401));
    }
}
