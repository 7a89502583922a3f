/** The sentences of promises 26 to 29: origins, halls, rules and counts. */
final class AskEdges {
    private AskEdges() {
    }

    static void run() {
        Checks.about("Promise 26", "A context's site, a find's context, an object's find.",
            AskEdges::origin);
        Checks.about("Promise 26", "NoSuchElementException (rule 1): it is none of these.",
            AskEdges::originIsRefused);
        Checks.about("Promise 27", "The store that a show is in, as it was told.", AskEdges::hall);
        Checks.about("Promise 28", "The rule by which the latest refused call was refused;",
            AskEdges::rule);
        Checks.about("Promise 28", "0 if none was.", AskEdges::ruleOfNone);
        Checks.about("Promise 29", "How many there are of a kind.", AskEdges::count);
        Checks.about("Promise 29", "NoSuchElementException (no rule): kind is not 1 .. 9.",
            AskEdges::countIsRefused);
    }

    private static void origin() {
        Told t = Houses.furnished();
        t.asked(200, h -> h.origin(300)).asked(200, h -> h.origin(302));
        t.asked(201, h -> h.origin(303)).asked(300, h -> h.origin(400));
        t.asked(303, h -> h.origin(403)).asked(400, h -> h.origin(500));
        t.asked(402, h -> h.origin(502)).gives(503, h -> h.object(100, 403));
        t.asked(403, h -> h.origin(503));
        RuleEdges.full().asked(200, h -> h.origin(319)).asked(300, h -> h.origin(429))
            .asked(429, h -> h.origin(529));
    }

    private static void originIsRefused() {
        Told t = Houses.furnished();
        MuseumHouse made = t.again();
        for (int kind : new int[] {1, 2, 6, 7, 8, 9}) {
            int first = 100 * kind;
            int last = first + made.count(kind) - 1;
            t.refused(1, h -> h.origin(first)).refused(1, h -> h.origin(last));
        }
        int[] none = {
            0, 1, -1, 299, 304, 399, 404, 499, 503, 599, 1000, 300 + 65536, -300, -400, -500,
            Integer.MIN_VALUE, Integer.MAX_VALUE, Integer.MIN_VALUE + 300, Integer.MIN_VALUE + 500
        };
        for (int handle : none) {
            t.refused(1, h -> h.origin(handle));
        }
        Told empty = new Told();
        for (int handle : new int[] {100, 200, 300, 400, 500, 600}) {
            empty.refused(1, h -> h.origin(handle));
        }
    }

    private static void hall() {
        Told t = Houses.furnished().asked(600, h -> h.hall(800)).asked(601, h -> h.hall(802));
        t.gives(803, h -> h.show(100, 602, 0, 0)).asked(602, h -> h.hall(803));
        // As it was told, wherever the store is carried to, and whatever hangs there.
        t.tell(h -> h.carry(100, 602, 0)).asked(602, h -> h.hall(803));
        t.tell(h -> h.take(100, 800, 500)).asked(600, h -> h.hall(800));
        t.refused(1, h -> h.hall(804)).refused(1, h -> h.hall(799)).refused(1, h -> h.hall(600));
        t.refused(1, h -> h.hall(0)).refused(1, h -> h.hall(-800));
        t.refused(1, h -> h.hall(Integer.MIN_VALUE)).refused(1, h -> h.hall(Integer.MAX_VALUE));
        new Told().refused(1, h -> h.hall(800));
    }

    /** Only a refused call changes it: none that is answered, and no asking. */
    private static void rule() {
        Told t = Houses.furnished().refused(17, h -> h.close(100, 901));
        t.asked(17, MuseumHouse::rule).asked(17, MuseumHouse::rule);
        for (Houses.Slot slot : Houses.DESK_SLOTS) {
            t.tell(h -> slot.call().accept(h, 100)).asked(17, MuseumHouse::rule);
        }
        t.gives(101, h -> h.day(1)).asked(17, MuseumHouse::rule);
        t.asked(1, h -> h.year(302, 0)).asked(true, h -> h.isAbove(300, 301));
        t.asked(true, h -> h.within(601, 600)).asked(602, h -> h.place(500, 10));
        t.asked(1, h -> h.stored(602, 10)).asked(602, h -> h.where(500, 10));
        t.asked(200, h -> h.origin(300)).asked(600, h -> h.hall(800)).asked(4, h -> h.count(5));
        t.asked(17, MuseumHouse::rule);
        // The latest one, be it the same rule or one asked earlier or later.
        t.refused(4, h -> h.day(-1)).refused(4, h -> h.day(1001)).refused(1, h -> h.hall(0));
        t.refused(10, h -> h.carry(100, 600, 600)).refused(2, h -> h.site(101));
        t.asked(2, MuseumHouse::rule);
    }

    private static void ruleOfNone() {
        Told t = new Told().asked(0, MuseumHouse::rule).tell(h -> h.site(100));
        t.asked(0, MuseumHouse::rule).asked(0, h -> h.day(0)).asked(0, MuseumHouse::rule);
        Houses.furnished().asked(0, MuseumHouse::rule);
        RuleEdges.full().asked(0, MuseumHouse::rule);
    }

    private static void count() {
        int[] due = {0, 3, 2, 4, 4, 3, 3, 2, 3, 2};
        Told t = Houses.furnished();
        for (int kind = 1; kind <= 9; kind++) {
            int of = kind;
            t.asked(due[kind], h -> h.count(of));
            RuleEdges.full().asked(Houses.MOST[kind], h -> h.count(of));
            new Told().asked(kind == 1 ? 1 : 0, h -> h.count(of));
        }
        // What ended, was taken out or closed is one of its kind still.
        t.tell(h -> h.back(100, 700, 30)).asked(2, h -> h.count(7));
        t.tell(h -> h.close(100, 900)).asked(2, h -> h.count(9));
        t.tell(h -> h.take(100, 800, 500)).asked(3, h -> h.count(8)).asked(3, h -> h.count(5));
    }

    /** It is refused by no rule: what rule() tells stays, be it 0 or another one. */
    private static void countIsRefused() {
        int[] none = {
            0, 10, -1, 100, 101, 900, 65537, Integer.MIN_VALUE, Integer.MAX_VALUE,
            Integer.MIN_VALUE + 1, Integer.MIN_VALUE + 9
        };
        Told t = Houses.furnished();
        for (int kind : none) {
            MuseumHouse asked = t.again();
            Checks.equal(Checks.exceptionOf(1), Checks.told(() -> asked.count(kind)));
            Checks.due(0, asked::rule);
            t.changesNothing(h -> Checks.told(() -> h.count(kind)));
        }
        t.refused(4, h -> h.day(-1));
        MuseumHouse refused = t.again();
        Checks.told(() -> refused.day(-1));
        Checks.equal(Checks.exceptionOf(1), Checks.told(() -> refused.count(0)));
        Checks.due(4, refused::rule);
    }
}
