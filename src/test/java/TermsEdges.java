/** The sentences under 'Terms' but for the rules, and those of 'What it is' that have an edge. */
final class TermsEdges {
    private static final String[] ROOMS = {
        "1 desks (at most 6)", "2 sites (4)", "3 contexts (20)", "4 finds (30)", "5 objects (30)",
        "6 stores (16)", "7 loans (40)", "8 shows (10)", "9 claims (20)"
    };

    private TermsEdges() {
    }

    static void run() {
        Checks.about("What it is", "An object is used for at most 512 calls after it has been made",
            TermsEdges::callsOfOneHouse);
        Checks.about("What it is", "answers for any day, that change by later tellings alone",
            TermsEdges::answersStay);
        Checks.about("Terms", "HANDLES are 100 times a KIND and a number, from 0 on as they were "
            + "made:", TermsEdges::handles);
        for (int kind = 1; kind <= 9; kind++) {
            int of = kind;
            Checks.about("Terms", ROOMS[kind - 1], () -> room(of));
        }
        Checks.about("Terms", "0 is none.", TermsEdges::zeroIsNone);
        Checks.about("Terms", "TODAY is a day, 0 at first.", TermsEdges::todayAtFirst);
        Checks.about("Terms", "DAYS that are asked or told are 0 .. 9999.", TermsEdges::days);
        Checks.about("Terms", "RIGHTS of a desk are bits: 1 desks, 2 digging, 4 keeping, 8 "
            + "lending, 16 showing, 32 claims.", TermsEdges::rights);
        Checks.about("Terms", "Desk 100 is there, with all.", TermsEdges::firstDesk);
        layers();
        objects();
    }

    private static void layers() {
        Checks.about("Terms", "ABOVE: a context of a site may be told above another one of it;",
            TermsEdges::aboveInOneSite);
        Checks.about("Terms", "what is above one that is above a third is above that, too.",
            TermsEdges::aboveAThird);
        Checks.about("Terms", "A context has a told FIRST and LAST year, 0 and 999 at first;",
            TermsEdges::yearsAtFirst);
        Checks.about("Terms", "its EARLIEST year is the greatest first one of itself and all that "
            + "it is above,", TermsEdges::earliest);
        Checks.about("Terms", "its LATEST the least last one of itself and all that are above it.",
            TermsEdges::latest);
    }

    private static void objects() {
        Checks.about("Terms", "AN OBJECT comes of a find, and has its day.",
            TermsEdges::objectsDay);
        Checks.about("Terms", "Its PLACE on a day is the store of the latest move that was told "
            + "for that day or one ahead of it", TermsEdges::placeByDays);
        Checks.about("Terms", "(told again for a day, the later telling counts).",
            TermsEdges::toldAgain);
        Checks.about("Terms", "A store may be in another one, and is WITHIN that, and within what "
            + "that is within.", TermsEdges::storesInStores);
        Checks.about("Terms", "A LOAN has an object from a day to another one;",
            TermsEdges::daysOfALoan);
        Checks.about("Terms", "a SHOW has objects on all its days.", TermsEdges::daysOfAShow);
    }

    /** The 512th call of a house is answered like the first, refused calls being calls, too. */
    private static void callsOfOneHouse() {
        Told t = new Told();
        t.gives(200, h -> h.site(100)).gives(300, h -> h.context(100, 200));
        MuseumHouse house = t.again();
        for (int call = 3; call <= 510; call++) {
            int asked = call;
            if (call % 2 == 0) {
                Checks.equal(Checks.exceptionOf(4), Checks.told(() -> house.day(-asked)));
            } else {
                Checks.due(asked / 2, () -> house.day(1));
            }
        }
        Checks.due(4, house::rule);
        Checks.due(201, () -> house.site(100));
    }

    /** Days that go by change no answer, nor does asking. */
    private static void answersStay() {
        Told t = Houses.furnished();
        int[] days = {0, 9, 10, 20, 25, 26, 30, 40, 41, 49, 50, 100, 101, 9999};
        int[] due = {0, 0, 602, 800, 800, 602, 700, 700, 602, 602, 600, 600, 600, 600};
        for (int today = 100; today <= 102; today++) {
            for (int at = 0; at < days.length; at++) {
                int day = days[at];
                t.asked(due[at], h -> h.where(500, day));
            }
            t.tell(h -> h.day(1));
        }
        t.changesNothing(h -> {
            h.isAbove(300, 301);
            h.year(300, 0);
            h.within(600, 601);
            h.place(500, 10);
            h.stored(600, 10);
            h.where(500, 10);
            h.origin(300);
            h.hall(800);
            h.rule();
            h.count(5);
            h.day(0);
        });
    }

    private static void handles() {
        for (int kind = 1; kind <= 9; kind++) {
            int of = kind;
            int first = kind == 1 ? 1 : 0;
            Told t = Houses.readyFor(kind);
            int here = 3;
            if (kind == 5) {
                t.gives(500, h -> h.object(100, 402)).gives(501, h -> h.object(100, 400));
                t.asked(402, h -> h.origin(500)).asked(400, h -> h.origin(501));
                here = 2;
            } else {
                for (int number = first; number < here; number++) {
                    int made = number;
                    t.gives(100 * kind + number, h -> Houses.make(h, of, made));
                }
            }
            for (int number = -1; number <= here; number++) {
                int handle = 100 * kind + number;
                t.isThere(number >= 0 && number < here, h -> Houses.name(h, of, handle));
            }
        }
    }

    /** A kind with none of it, with one, with as many as there may be, and one more. */
    private static void room(int kind) {
        Told t = Houses.readyFor(kind);
        int first = kind == 1 ? 1 : 0;
        int most = Houses.MOST[kind];
        t.asked(first, h -> h.count(kind));
        for (int number = first; number < most; number++) {
            int made = number;
            t.isThere(false, h -> Houses.name(h, kind, 100 * kind + made));
            t.gives(100 * kind + number, h -> Houses.make(h, kind, made));
            t.isThere(true, h -> Houses.name(h, kind, 100 * kind + made));
            t.asked(number + 1, h -> h.count(kind));
        }
        t.refused(3, h -> Houses.make(h, kind, most));
        t.asked(most, h -> h.count(kind));
        t.isThere(true, h -> Houses.name(h, kind, 100 * kind));
        t.isThere(true, h -> Houses.name(h, kind, 100 * kind + most - 1));
        t.isThere(false, h -> Houses.name(h, kind, 100 * kind + most));
    }

    private static void zeroIsNone() {
        Told t = Houses.furnished();
        for (Houses.Slot slot : Houses.DESK_SLOTS) {
            t.refused(1, h -> slot.call().accept(h, 0));
        }
        for (Houses.Slot slot : Houses.OTHER_SLOTS) {
            t.refused(1, h -> slot.call().accept(h, 0));
        }
        t.refused(1, h -> h.origin(0));
        t.asked(0, h -> h.place(501, 50)).asked(0, h -> h.where(500, 9));
        t.gives(603, h -> h.store(100, 0)).asked(false, h -> h.within(603, 600));
        t.gives(true, h -> h.carry(100, 602, 0)).asked(false, h -> h.within(602, 601));
    }

    private static void todayAtFirst() {
        Houses.dug(1).asked(0, h -> h.day(0))
            .gives(400, h -> h.find(100, 300, 0)).refused(4, h -> h.find(100, 300, 1))
            .gives(1, h -> h.day(1)).gives(401, h -> h.find(100, 300, 1));
    }

    /** Today is the last day, so that no call is bound by today. */
    private static Told lastDay() {
        return Houses.dug(1).daysTo(9999).tell(h -> h.find(100, 300, 0))
            .tell(h -> h.object(100, 400)).tell(h -> h.store(100, 0));
    }

    private static void days() {
        lastDay().gives(401, h -> h.find(100, 300, 0)).gives(402, h -> h.find(100, 300, 9999));
        lastDay().gives(true, h -> h.move(100, 500, 600, 0))
            .gives(true, h -> h.move(100, 500, 600, 9999))
            .asked(600, h -> h.place(500, 0)).asked(600, h -> h.place(500, 9999))
            .asked(1, h -> h.stored(600, 0)).asked(1, h -> h.stored(600, 9999))
            .asked(600, h -> h.where(500, 0)).asked(600, h -> h.where(500, 9999));
        lastDay().gives(700, h -> h.loan(100, 500, 0, 9999))
            .gives(9999, h -> h.back(100, 700, 9999)).gives(9999, h -> h.back(100, 700, 0))
            .gives(701, h -> h.loan(100, 500, 9999, 9999))
            .gives(800, h -> h.show(100, 600, 0, 9999)).gives(801, h -> h.show(100, 600, 0, 0))
            .gives(802, h -> h.show(100, 600, 9999, 9999));
        int[] far = {-1, 10000, Integer.MIN_VALUE, Integer.MAX_VALUE};
        Told t = lastDay().tell(h -> h.loan(100, 500, 0, 9999)).tell(h -> h.find(100, 300, 0))
            .tell(h -> h.object(100, 401));
        for (int day : far) {
            t.refused(4, h -> h.find(100, 300, day)).refused(4, h -> h.move(100, 501, 600, day))
                .refused(4, h -> h.place(500, day)).refused(4, h -> h.stored(600, day))
                .refused(4, h -> h.loan(100, 501, day, day))
                .refused(4, h -> h.loan(100, 501, day, 9999))
                .refused(4, h -> h.loan(100, 501, 0, day)).refused(4, h -> h.back(100, 700, day))
                .refused(4, h -> h.show(100, 600, day, day))
                .refused(4, h -> h.show(100, 600, day, 9999))
                .refused(4, h -> h.show(100, 600, 0, day)).refused(4, h -> h.where(500, day));
        }
    }

    /** Each call with its right alone, with all others, and with none. */
    private static void rights() {
        for (Houses.Slot slot : Houses.DESK_SLOTS) {
            Told t = Houses.furnished().gives(103, h -> h.desk(100, slot.right()))
                .gives(104, h -> h.desk(100, 63 - slot.right()));
            t.refused(2, h -> slot.call().accept(h, 104));
            t.refused(2, h -> slot.call().accept(h, 101));
            t.tell(h -> slot.call().accept(h, 103));
        }
    }

    private static void firstDesk() {
        for (Houses.Slot slot : Houses.DESK_SLOTS) {
            Houses.furnished().tell(h -> slot.call().accept(h, 100));
        }
        new Told().gives(101, h -> h.desk(100, 63));
        new Told().refused(1, h -> h.site(99)).refused(1, h -> h.site(101));
    }

    private static void aboveInOneSite() {
        Told t = Houses.dug(2).tell(h -> h.site(100)).times(2, (h, n) -> h.context(100, 201));
        t.refused(6, h -> h.above(100, 300, 302)).refused(6, h -> h.above(100, 303, 301));
        t.gives(true, h -> h.above(100, 300, 301)).gives(true, h -> h.above(100, 303, 302));
        t.asked(false, h -> h.isAbove(300, 302)).asked(false, h -> h.isAbove(303, 301));
    }

    /** A chain of all contexts that there may be, told from its midst, its ends and in order. */
    private static void aboveAThird() {
        for (int start : new int[] {0, 9, 18}) {
            Told t = Houses.dug(20);
            for (int n = 0; n < 19; n++) {
                int upper = 300 + (start + n) % 19;
                t.gives(true, h -> h.above(100, upper, upper + 1));
            }
            for (int b = 0; b < 20; b++) {
                int lower = 300 + b;
                t.asked(b > 0, h -> h.isAbove(300, lower));
                t.asked(b < 19, h -> h.isAbove(lower, 319));
                t.asked(false, h -> h.isAbove(lower, 300)).asked(b > 9, h -> h.isAbove(309, lower));
            }
        }
    }

    private static void yearsAtFirst() {
        Told t = Houses.dug(20);
        for (int context = 300; context < 320; context++) {
            int of = context;
            t.asked(0, h -> h.year(of, 0)).asked(999, h -> h.year(of, 1));
        }
        // They bind no other context, and hold none back.
        t.tell(h -> h.above(100, 300, 301)).gives(999, h -> h.span(100, 301, 999, 999))
            .asked(999, h -> h.year(300, 0)).asked(999, h -> h.year(300, 1));
        Houses.dug(2).tell(h -> h.above(100, 300, 301)).gives(0, h -> h.span(100, 300, 0, 0))
            .asked(0, h -> h.year(301, 0)).asked(0, h -> h.year(301, 1));
    }

    /** 300 and 301 over 302 over 303 and 304; 305 beside them all. */
    private static Told fork() {
        return Houses.dug(6).tell(h -> h.above(100, 300, 302)).tell(h -> h.above(100, 301, 302))
            .tell(h -> h.above(100, 302, 303)).tell(h -> h.above(100, 302, 304));
    }

    private static void earliest() {
        Told t = fork().gives(10, h -> h.span(100, 303, 10, 999))
            .gives(11, h -> h.span(100, 304, 11, 999)).tell(h -> h.span(100, 305, 500, 500));
        t.asked(11, h -> h.year(300, 0)).asked(11, h -> h.year(301, 0));
        t.asked(11, h -> h.year(302, 0)).asked(10, h -> h.year(303, 0));
        t.gives(11, h -> h.span(100, 302, 11, 999)).gives(12, h -> h.span(100, 302, 12, 999));
        t.asked(12, h -> h.year(300, 0)).asked(11, h -> h.year(304, 0));
        t.gives(13, h -> h.span(100, 300, 13, 999)).asked(12, h -> h.year(301, 0));
        t.gives(12, h -> h.span(100, 300, 0, 999)).gives(11, h -> h.span(100, 302, 0, 999));
        t.gives(0, h -> h.span(100, 304, 0, 999)).asked(10, h -> h.year(300, 0));
    }

    private static void latest() {
        Told t = fork().tell(h -> h.span(100, 300, 0, 900)).tell(h -> h.span(100, 301, 0, 899))
            .tell(h -> h.span(100, 305, 0, 0));
        t.asked(900, h -> h.year(300, 1)).asked(899, h -> h.year(301, 1));
        t.asked(899, h -> h.year(302, 1)).asked(899, h -> h.year(303, 1));
        t.tell(h -> h.span(100, 302, 0, 898)).asked(898, h -> h.year(304, 1));
        t.asked(899, h -> h.year(301, 1)).tell(h -> h.span(100, 304, 0, 897));
        t.asked(897, h -> h.year(304, 1)).asked(898, h -> h.year(303, 1));
        t.tell(h -> h.span(100, 302, 0, 999)).tell(h -> h.span(100, 301, 0, 999));
        t.asked(900, h -> h.year(303, 1)).asked(999, h -> h.year(301, 1));
    }

    private static void objectsDay() {
        Told t = Houses.dug(1).daysTo(7).gives(400, h -> h.find(100, 300, 0))
            .gives(401, h -> h.find(100, 300, 7)).tell(h -> h.day(100));
        // Its day is the find's, not the one on which it came of it.
        t.gives(500, h -> h.object(100, 401)).gives(501, h -> h.object(100, 400));
        t.asked(0, h -> h.where(500, 6)).asked(1, h -> h.where(500, 7));
        t.asked(1, h -> h.where(501, 0)).asked(401, h -> h.origin(500));
    }

    private static void placeByDays() {
        Told t = Houses.kept(1, 3).asked(0, h -> h.place(500, 9999));
        t.gives(true, h -> h.move(100, 500, 601, 30)).gives(true, h -> h.move(100, 500, 600, 20));
        t.gives(true, h -> h.move(100, 500, 602, 31));
        t.asked(0, h -> h.place(500, 0)).asked(0, h -> h.place(500, 19));
        t.asked(600, h -> h.place(500, 20)).asked(600, h -> h.place(500, 29));
        t.asked(601, h -> h.place(500, 30)).asked(602, h -> h.place(500, 31));
        t.asked(602, h -> h.place(500, 9999));
    }

    private static void toldAgain() {
        Told t = Houses.kept(2, 3).gives(true, h -> h.move(100, 500, 600, 20))
            .gives(true, h -> h.move(100, 500, 601, 30));
        t.gives(false, h -> h.move(100, 500, 602, 20)).asked(602, h -> h.place(500, 20));
        t.asked(602, h -> h.place(500, 29)).asked(601, h -> h.place(500, 30));
        t.gives(false, h -> h.move(100, 500, 602, 20)).asked(602, h -> h.place(500, 20));
        t.gives(false, h -> h.move(100, 500, 600, 20)).asked(600, h -> h.place(500, 20));
        t.gives(true, h -> h.move(100, 501, 601, 20)).asked(600, h -> h.place(500, 20));
    }

    /** A chain of all stores that there may be. */
    private static void storesInStores() {
        Told t = new Told().tell(h -> h.store(100, 0)).times(15, (h, n) -> h.store(100, 600 + n));
        for (int number = 0; number < 16; number++) {
            int store = 600 + number;
            t.asked(number > 0, h -> h.within(store, 600));
            t.asked(number < 15, h -> h.within(615, store));
            t.asked(false, h -> h.within(600, store)).asked(false, h -> h.within(store, 615));
        }
        t.gives(true, h -> h.carry(100, 608, 0)).asked(false, h -> h.within(615, 607));
        t.asked(true, h -> h.within(615, 608)).asked(true, h -> h.within(607, 600));
    }

    private static void daysOfALoan() {
        Told t = Houses.kept(2, 0).gives(700, h -> h.loan(100, 500, 20, 30));
        t.asked(1, h -> h.where(500, 19)).asked(700, h -> h.where(500, 20));
        t.asked(700, h -> h.where(500, 30)).asked(1, h -> h.where(500, 31));
        t.asked(1, h -> h.where(501, 25));
        t.gives(701, h -> h.loan(100, 500, 32, 32)).asked(1, h -> h.where(500, 31));
        t.asked(701, h -> h.where(500, 32)).asked(1, h -> h.where(500, 33));
    }

    private static void daysOfAShow() {
        Told t = Houses.kept(3, 1).gives(800, h -> h.show(100, 600, 20, 30))
            .gives(801, h -> h.show(100, 600, 32, 32));
        t.gives(true, h -> h.hang(100, 800, 500)).gives(true, h -> h.hang(100, 800, 501));
        t.gives(true, h -> h.hang(100, 801, 500)).asked(1, h -> h.where(502, 25));
        for (int object = 500; object <= 501; object++) {
            int of = object;
            t.asked(1, h -> h.where(of, 19)).asked(800, h -> h.where(of, 20));
            t.asked(800, h -> h.where(of, 30)).asked(1, h -> h.where(of, 31));
        }
        t.asked(801, h -> h.where(500, 32)).asked(1, h -> h.where(500, 33));
        t.asked(1, h -> h.where(501, 32));
    }
}
