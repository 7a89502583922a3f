/** The rules 1 to 17 under 'Terms': what each refuses and just not, and the order of all. */
final class RuleEdges {
    private RuleEdges() {
    }

    static void run() {
        Checks.about("Terms", "NoSuchElementException: 1 a handle is none that is there, or of "
            + "another kind.", RuleEdges::rule1);
        Checks.about("Terms", "IllegalStateException: 2 the desk hasn't the right;",
            RuleEdges::rule2);
        Checks.about("Terms", "3 there is no room for one more.", RuleEdges::rule3);
        Checks.about("Terms", "IllegalArgumentException: 4 a number is out of its bounds;",
            RuleEdges::rule4);
        Checks.about("Terms", "5 rights that the desk itself hasn't;", RuleEdges::rule5);
        Checks.about("Terms", "6 contexts of two sites;", RuleEdges::rule6);
        Checks.about("Terms", "7 a context above itself, or above one that is above it;",
            RuleEdges::rule7);
        Checks.about("Terms", "8 a context of the site would have an earliest year behind its "
            + "latest;", RuleEdges::rule8);
        Checks.about("Terms", "9 the find is an object already;", RuleEdges::rule9);
        Checks.about("Terms", "10 a store within itself;", RuleEdges::rule10);
        Checks.about("Terms", "11 a day ahead of the object's;", RuleEdges::rule11);
        Checks.about("Terms", "12 it is on loan on that day;", RuleEdges::rule12);
        Checks.about("Terms", "13 there is an open claim for it;", RuleEdges::rule13);
        Checks.about("Terms", "14 a loan or a show has it on one of the days;", RuleEdges::rule14);
        Checks.about("Terms", "15 no day of the loan;", RuleEdges::rule15);
        Checks.about("Terms", "16 such a claim is open;", RuleEdges::rule16);
        Checks.about("Terms", "17 the claim is closed.", RuleEdges::rule17);
        Checks.about("Terms", "RULES, asked in this order; the first by which a call is refused is "
            + "named by rule():", RuleEdges::order);
        Checks.about("Terms", "then the rules told at the call, in the order told there:",
            RuleEdges::orderAtTheCall);
        Checks.about("Terms", "Such a call changes nothing but what rule() tells.",
            RuleEdges::nothingElse);
    }

    private static void rule1() {
        Told t = Houses.furnished();
        MuseumHouse made = t.again();
        Houses.Slot[][] all = {Houses.DESK_SLOTS, Houses.OTHER_SLOTS, Houses.PARENT_SLOTS};
        for (Houses.Slot[] slots : all) {
            for (Houses.Slot slot : slots) {
                wrongHandles(slot, made.count(slot.kind()), slots == Houses.PARENT_SLOTS);
                int first = 100 * slot.kind();
                int last = first + made.count(slot.kind()) - 1;
                t.isThere(true, h -> slot.call().accept(h, first));
                t.isThere(true, h -> slot.call().accept(h, last));
            }
        }
        // Every handle that is there, where another kind is asked.
        for (Houses.Slot slot : Houses.OTHER_SLOTS) {
            for (int kind = 1; kind <= 9; kind++) {
                int first = 100 * kind;
                int last = first + made.count(kind) - 1;
                t.isThere(kind == slot.kind(), h -> slot.call().accept(h, first));
                t.isThere(kind == slot.kind(), h -> slot.call().accept(h, last));
            }
        }
    }

    private static void wrongHandles(Houses.Slot slot, int made, boolean zeroIsFine) {
        Told t = Houses.furnished();
        for (int handle : Houses.wrongHandles(slot.kind(), made)) {
            if (handle != 0 || !zeroIsFine) {
                t.refused(1, h -> slot.call().accept(h, handle));
            }
        }
    }

    private static void rule2() {
        for (Houses.Slot slot : Houses.DESK_SLOTS) {
            Told t = Houses.furnished().tell(h -> h.desk(100, 63 - slot.right()))
                .tell(h -> h.desk(100, 63));
            t.refused(2, h -> slot.call().accept(h, 103)).tell(h -> slot.call().accept(h, 104));
        }
    }

    /**
     * As many of each kind as there may be: desk 105 without rights; object 500 with twelve days of
     * moves from 10 on and loans on the days from 100 on; 501 and 502 with open claims.
     */
    static Told full() {
        return new Told().times(4, (h, n) -> h.desk(100, 63)).tell(h -> h.desk(100, 0))
            .daysTo(100).times(4, (h, n) -> h.site(100))
            .times(20, (h, n) -> h.context(100, 200)).times(30, (h, n) -> h.find(100, 300, 10))
            .times(30, (h, n) -> h.object(100, 400 + n)).times(16, (h, n) -> h.store(100, 0))
            .times(12, (h, n) -> h.move(100, 500, 600, 10 + n))
            .times(40, (h, n) -> h.loan(100, 500, 100 + n, 100 + n))
            .times(10, (h, n) -> h.show(100, 600, 20, 30))
            .times(10, (h, n) -> h.claim(100, 501, n)).times(10, (h, n) -> h.claim(100, 502, n));
    }

    private static void rule3() {
        full().refused(3, h -> h.desk(100, 0)).refused(3, h -> h.site(100))
            .refused(3, h -> h.context(100, 200)).refused(3, h -> h.find(100, 300, 10))
            .refused(3, h -> h.object(100, 400)).refused(3, h -> h.store(100, 0))
            .refused(3, h -> h.store(100, 615)).refused(3, h -> h.move(100, 500, 600, 22))
            .refused(3, h -> h.loan(100, 503, 50, 60)).refused(3, h -> h.show(100, 600, 50, 60))
            .refused(3, h -> h.claim(100, 503, 0));
        // Room is asked where one more is made, and nowhere else.
        full().gives(true, h -> h.above(100, 300, 319)).gives(5, h -> h.span(100, 319, 5, 5))
            .gives(true, h -> h.carry(100, 615, 600))
            .gives(false, h -> h.move(100, 500, 601, 21))
            .gives(true, h -> h.move(100, 529, 601, 22)).gives(139, h -> h.back(100, 739, 139))
            .gives(true, h -> h.hang(100, 809, 529)).gives(true, h -> h.take(100, 809, 529))
            .gives(9, h -> h.close(100, 919));
        // What has ended, was closed or taken makes no room.
        full().gives(100, h -> h.back(100, 700, 100)).refused(3, h -> h.loan(100, 503, 50, 60))
            .gives(9, h -> h.close(100, 900)).refused(3, h -> h.claim(100, 503, 0));
    }

    private static void rule4() {
        for (Houses.Bounds number : Houses.NUMBERS) {
            Houses.furnished().tell(h -> number.call().accept(h, number.least()));
            Houses.furnished().tell(h -> number.call().accept(h, number.most()));
            int[] beyond = {
                number.least() - 1, number.most() + 1, Integer.MIN_VALUE, Integer.MAX_VALUE,
                Integer.MIN_VALUE + number.least(), Integer.MIN_VALUE + number.most(),
                Integer.MAX_VALUE - number.most(), number.most() + 65536
            };
            Told t = Houses.furnished();
            for (int value : beyond) {
                t.refused(4, h -> number.call().accept(h, value));
            }
        }
    }

    private static void rule5() {
        for (int bit = 1; bit <= 32; bit *= 2) {
            int right = bit;
            Told t = new Told().gives(101, h -> h.desk(100, 63 - right | 1));
            if (right != 1) {
                t.refused(5, h -> h.desk(101, right)).refused(5, h -> h.desk(101, 63));
            }
            t.gives(102, h -> h.desk(101, 63 - right | 1)).gives(103, h -> h.desk(101, 0));
        }
    }

    private static void rule6() {
        Told t = Houses.dug(1).times(3, (h, n) -> h.site(100)).tell(h -> h.context(100, 203));
        t.refused(6, h -> h.above(100, 300, 301)).refused(6, h -> h.above(100, 301, 300));
        t.tell(h -> h.context(100, 200)).gives(true, h -> h.above(100, 300, 302));
        t.refused(6, h -> h.above(100, 301, 302)).refused(6, h -> h.above(100, 302, 301));
    }

    private static void rule7() {
        Told t = Houses.dug(20).refused(7, h -> h.above(100, 300, 300))
            .refused(7, h -> h.above(100, 319, 319))
            .times(19, (h, n) -> h.above(100, 300 + n, 301 + n));
        t.refused(7, h -> h.above(100, 301, 300)).refused(7, h -> h.above(100, 302, 300));
        t.refused(7, h -> h.above(100, 319, 300)).refused(7, h -> h.above(100, 319, 318));
        t.refused(7, h -> h.above(100, 310, 310)).gives(false, h -> h.above(100, 300, 319));
    }

    /** 300 over 301 over 302, of which 300 ends with 600 and 302 begins with 500. */
    private static Told bound() {
        return Houses.dug(4).tell(h -> h.above(100, 300, 301)).tell(h -> h.above(100, 301, 302))
            .tell(h -> h.span(100, 300, 0, 600)).tell(h -> h.span(100, 302, 500, 999));
    }

    private static void rule8() {
        bound().gives(500, h -> h.span(100, 300, 0, 500)).refused(8, h -> h.span(100, 300, 0, 499));
        bound().gives(600, h -> h.span(100, 302, 600, 999))
            .refused(8, h -> h.span(100, 302, 601, 999));
        bound().gives(600, h -> h.span(100, 301, 600, 999))
            .refused(8, h -> h.span(100, 301, 601, 999));
        bound().gives(500, h -> h.span(100, 301, 0, 500)).refused(8, h -> h.span(100, 301, 0, 499));
        bound().gives(500, h -> h.span(100, 302, 500, 500)).asked(500, h -> h.year(302, 1));
        bound().gives(600, h -> h.span(100, 300, 600, 600)).asked(500, h -> h.year(301, 0));
        bound().gives(600, h -> h.span(100, 303, 600, 999)).gives(true, h -> h.above(100, 302, 303))
            .refused(8, h -> h.span(100, 303, 601, 999));
        bound().gives(601, h -> h.span(100, 303, 601, 999)).refused(8, h -> h.above(100, 302, 303))
            .refused(8, h -> h.above(100, 300, 303)).asked(601, h -> h.year(303, 0));
        bound().tell(h -> h.span(100, 303, 0, 500)).gives(true, h -> h.above(100, 303, 300));
        bound().tell(h -> h.span(100, 303, 0, 499)).refused(8, h -> h.above(100, 303, 300))
            .refused(8, h -> h.above(100, 303, 302)).asked(499, h -> h.year(303, 1));
        // Contexts that are not above one another don't bind one another.
        bound().gives(999, h -> h.span(100, 303, 999, 999)).gives(0, h -> h.span(100, 303, 0, 0));
    }

    private static void rule9() {
        Told t = Houses.dug(1).times(2, (h, n) -> h.find(100, 300, 0));
        t.gives(500, h -> h.object(100, 401)).refused(9, h -> h.object(100, 401));
        t.gives(501, h -> h.object(100, 400)).refused(9, h -> h.object(100, 400));
        t.refused(9, h -> h.object(100, 401)).asked(2, h -> h.count(5));
    }

    private static void rule10() {
        Told t = new Told().tell(h -> h.store(100, 0)).times(15, (h, n) -> h.store(100, 600 + n));
        t.refused(10, h -> h.carry(100, 600, 600)).refused(10, h -> h.carry(100, 615, 615));
        t.refused(10, h -> h.carry(100, 600, 601)).refused(10, h -> h.carry(100, 600, 615));
        t.refused(10, h -> h.carry(100, 614, 615)).gives(true, h -> h.carry(100, 615, 600));
        t.gives(true, h -> h.carry(100, 614, 615)).refused(10, h -> h.carry(100, 615, 614));
        t.gives(true, h -> h.carry(100, 601, 0)).gives(true, h -> h.carry(100, 600, 601));
    }

    private static void rule11() {
        Told t = Houses.kept(1, 1).tell(h -> h.show(100, 600, 9, 60))
            .tell(h -> h.show(100, 600, 10, 60));
        t.refused(11, h -> h.move(100, 500, 600, 9)).refused(11, h -> h.move(100, 500, 600, 0));
        t.refused(11, h -> h.loan(100, 500, 9, 9)).refused(11, h -> h.loan(100, 500, 9, 10));
        t.refused(11, h -> h.loan(100, 500, 0, 9999)).refused(11, h -> h.hang(100, 800, 500));
        t.gives(true, h -> h.move(100, 500, 600, 10)).gives(true, h -> h.hang(100, 801, 500));
        t.gives(true, h -> h.take(100, 801, 500)).gives(700, h -> h.loan(100, 500, 10, 10));
    }

    private static void rule12() {
        Told t = Houses.kept(2, 1).tell(h -> h.loan(100, 500, 30, 40));
        t.gives(true, h -> h.move(100, 500, 600, 29)).refused(12, h -> h.move(100, 500, 600, 30));
        t.refused(12, h -> h.move(100, 500, 600, 35)).refused(12, h -> h.move(100, 500, 600, 40));
        t.gives(true, h -> h.move(100, 500, 600, 41)).gives(true, h -> h.move(100, 501, 600, 35));
        t.gives(40, h -> h.back(100, 700, 39)).refused(12, h -> h.move(100, 500, 600, 39));
        t.gives(true, h -> h.move(100, 500, 600, 40));
        // A day that was told ahead of the loan can't be told again while the loan has it.
        Houses.kept(1, 2).tell(h -> h.move(100, 500, 600, 30)).tell(h -> h.loan(100, 500, 30, 30))
            .refused(12, h -> h.move(100, 500, 601, 30)).asked(600, h -> h.place(500, 30));
    }

    private static void rule13() {
        Told t = Houses.kept(2, 1).tell(h -> h.show(100, 600, 20, 30))
            .gives(700, h -> h.loan(100, 500, 50, 50)).gives(900, h -> h.claim(100, 500, 0));
        t.refused(13, h -> h.loan(100, 500, 60, 60)).refused(13, h -> h.hang(100, 800, 500));
        t.gives(701, h -> h.loan(100, 501, 60, 60)).gives(true, h -> h.hang(100, 800, 501));
        t.gives(901, h -> h.claim(100, 500, 9)).gives(1, h -> h.close(100, 900));
        t.refused(13, h -> h.loan(100, 500, 60, 60)).refused(13, h -> h.hang(100, 800, 500));
        t.gives(0, h -> h.close(100, 901)).gives(702, h -> h.loan(100, 500, 60, 60));
        t.gives(true, h -> h.hang(100, 800, 500));
    }

    /** The object is had from 30 to 40, by a loan or by a show; shows 801 .. wait for it. */
    private static Told had(boolean byLoan) {
        Told t = Houses.kept(2, 1).tell(h -> h.show(100, 600, 30, 40));
        t.tell(byLoan ? h -> h.loan(100, 500, 30, 40) : h -> h.hang(100, 800, 500));
        int[][] days = {{20, 29}, {41, 50}, {20, 30}, {40, 50}, {30, 40}, {35, 35}, {10, 9999}};
        for (int[] each : days) {
            t.tell(h -> h.show(100, 600, each[0], each[1]));
        }
        return t;
    }

    private static void rule14() {
        for (boolean byLoan : new boolean[] {true, false}) {
            Told t = had(byLoan);
            for (int show = 803; show <= 807; show++) {
                int hung = show;
                t.refused(14, h -> h.hang(100, hung, 500));
            }
            t.refused(14, h -> h.loan(100, 500, 20, 30)).refused(14, h -> h.loan(100, 500, 40, 50));
            t.refused(14, h -> h.loan(100, 500, 30, 40)).refused(14, h -> h.loan(100, 500, 35, 35));
            t.refused(14, h -> h.loan(100, 500, 10, 9999));
            t.gives(true, h -> h.hang(100, 801, 500)).gives(true, h -> h.hang(100, 802, 500));
            t.gives(true, h -> h.hang(100, 807, 501));
            Told loans = had(byLoan);
            loans.tell(h -> h.loan(100, 500, 20, 29)).tell(h -> h.loan(100, 500, 41, 50));
            loans.tell(h -> h.loan(100, 501, 30, 40));
        }
        // What was given back or taken out is had no more.
        had(true).gives(40, h -> h.back(100, 700, 35)).refused(14, h -> h.loan(100, 500, 35, 50))
            .gives(701, h -> h.loan(100, 500, 36, 50));
        had(false).gives(true, h -> h.take(100, 800, 500))
            .gives(700, h -> h.loan(100, 500, 30, 40));
    }

    private static void rule15() {
        Told t = Houses.kept(1, 0).tell(h -> h.loan(100, 500, 30, 40))
            .tell(h -> h.loan(100, 500, 50, 50));
        t.refused(15, h -> h.back(100, 700, 29)).refused(15, h -> h.back(100, 700, 41));
        t.refused(15, h -> h.back(100, 700, 0)).refused(15, h -> h.back(100, 700, 9999));
        t.refused(15, h -> h.back(100, 700, 50)).refused(15, h -> h.back(100, 701, 49));
        t.refused(15, h -> h.back(100, 701, 51)).gives(40, h -> h.back(100, 700, 40));
        t.gives(40, h -> h.back(100, 700, 30)).refused(15, h -> h.back(100, 700, 31));
        t.gives(50, h -> h.back(100, 701, 50));
    }

    private static void rule16() {
        Told t = Houses.kept(2, 0).gives(900, h -> h.claim(100, 500, 0))
            .gives(901, h -> h.claim(100, 500, 9));
        t.refused(16, h -> h.claim(100, 500, 0)).refused(16, h -> h.claim(100, 500, 9));
        t.gives(902, h -> h.claim(100, 500, 1)).gives(903, h -> h.claim(100, 501, 0));
        t.gives(2, h -> h.close(100, 900)).gives(904, h -> h.claim(100, 500, 0));
        t.refused(16, h -> h.claim(100, 500, 0));
    }

    private static void rule17() {
        Told t = Houses.kept(1, 0).times(2, (h, n) -> h.claim(100, 500, n));
        t.gives(1, h -> h.close(100, 901)).refused(17, h -> h.close(100, 901));
        t.gives(902, h -> h.claim(100, 500, 1)).refused(17, h -> h.close(100, 901));
        t.gives(1, h -> h.close(100, 900)).refused(17, h -> h.close(100, 900));
    }

    private static void order() {
        orderInTheFullHouse();
        orderOfMakers();
        Told t = Houses.furnished();
        t.refused(4, h -> h.desk(102, 66)).refused(4, h -> h.desk(102, -1));
        t.refused(1, h -> h.above(101, 300, 309)).refused(1, h -> h.above(101, 309, 309));
        t.refused(1, h -> h.above(109, 303, 300)).refused(2, h -> h.above(101, 300, 303));
        t.refused(2, h -> h.above(101, 300, 300)).refused(2, h -> h.above(101, 301, 300));
        t.refused(1, h -> h.span(101, 309, 5, 4)).refused(2, h -> h.span(101, 300, 5, 4));
        t.refused(2, h -> h.span(101, 300, 0, 499)).refused(4, h -> h.span(100, 300, 5, 4));
        t.refused(4, h -> h.span(100, 300, -1, 499)).refused(1, h -> h.year(309, 2));
        t.refused(1, h -> h.object(101, 409)).refused(2, h -> h.object(101, 400));
        t.refused(1, h -> h.carry(101, 609, 609)).refused(1, h -> h.carry(101, 600, 609));
        t.refused(2, h -> h.carry(101, 600, 600)).refused(2, h -> h.carry(101, 600, 602));
        t.refused(1, h -> h.place(509, -1)).refused(1, h -> h.stored(609, -1));
        t.refused(1, h -> h.where(509, -1)).refused(1, h -> h.take(101, 809, 500));
        t.refused(2, h -> h.take(101, 800, 500)).refused(1, h -> h.close(101, 909));
        t.refused(2, h -> h.close(101, 901)).refused(2, h -> h.claim(101, 500, 3));
        t.refused(1, h -> h.back(101, 709, -1)).refused(2, h -> h.back(101, 700, -1));
        t.refused(2, h -> h.back(101, 700, 29)).refused(4, h -> h.back(100, 700, -1));
        t.refused(1, h -> h.hang(101, 809, 500)).refused(1, h -> h.hang(101, 801, 509));
        t.refused(2, h -> h.hang(101, 801, 500)).refused(2, h -> h.hang(101, 800, 500));
    }

    private static void orderOfMakers() {
        Told t = Houses.furnished();
        t.refused(2, h -> h.move(101, 500, 600, 9)).refused(2, h -> h.move(101, 500, 600, 35));
        t.refused(2, h -> h.move(101, 500, 600, 101)).refused(4, h -> h.move(100, 500, 600, -1));
        t.refused(2, h -> h.loan(101, 500, 9, 9)).refused(2, h -> h.loan(101, 500, 30, 40));
        t.refused(4, h -> h.loan(100, 500, -1, 35)).refused(4, h -> h.loan(100, 500, 40, 30));
        t.refused(4, h -> h.loan(100, 500, 9, 8)).refused(4, h -> h.loan(100, 500, 40, 10000));
        t.tell(h -> h.loan(100, 502, 101, 110)).refused(4, h -> h.move(100, 502, 600, 105));
    }

    private static void orderInTheFullHouse() {
        full().refused(1, h -> h.desk(106, 64)).refused(2, h -> h.desk(105, 64))
            .refused(3, h -> h.desk(100, 64)).refused(1, h -> h.site(106))
            .refused(2, h -> h.site(105)).refused(1, h -> h.context(105, 204))
            .refused(2, h -> h.context(105, 200)).refused(1, h -> h.find(105, 320, -1))
            .refused(2, h -> h.find(105, 300, -1)).refused(3, h -> h.find(100, 300, -1))
            .refused(3, h -> h.find(100, 300, 101)).refused(1, h -> h.object(105, 430))
            .refused(2, h -> h.object(105, 400)).refused(3, h -> h.object(100, 400))
            .refused(1, h -> h.store(105, 616)).refused(2, h -> h.store(105, 0));
        full().refused(1, h -> h.move(105, 530, 600, -1)).refused(1, h -> h.move(105, 500, 616, -1))
            .refused(2, h -> h.move(105, 500, 600, -1)).refused(3, h -> h.move(100, 500, 600, -1))
            .refused(3, h -> h.move(100, 500, 600, 101)).refused(3, h -> h.move(100, 500, 600, 9))
            .refused(3, h -> h.move(100, 500, 600, 100)).refused(1, h -> h.show(105, 616, 5, 4))
            .refused(2, h -> h.show(105, 600, 5, 4)).refused(3, h -> h.show(100, 600, 5, 4));
        full().refused(1, h -> h.loan(105, 530, 5, 4)).refused(2, h -> h.loan(105, 501, 5, 4))
            .refused(3, h -> h.loan(100, 501, 5, 4)).refused(3, h -> h.loan(100, 503, 9, 9))
            .refused(3, h -> h.loan(100, 501, 20, 30)).refused(3, h -> h.loan(100, 500, 100, 100))
            .refused(1, h -> h.claim(105, 530, 10)).refused(2, h -> h.claim(105, 501, 10))
            .refused(3, h -> h.claim(100, 501, 10)).refused(3, h -> h.claim(100, 501, 1));
    }

    private static void orderAtTheCall() {
        // 6 ahead of 8, 7 ahead of 8: the years would not fit, either.
        Told t = Houses.dug(2).tell(h -> h.site(100)).tell(h -> h.context(100, 201))
            .tell(h -> h.span(100, 300, 500, 999)).tell(h -> h.above(100, 300, 301))
            .tell(h -> h.span(100, 301, 0, 499)).tell(h -> h.span(100, 302, 0, 100));
        t.refused(6, h -> h.above(100, 302, 300)).refused(7, h -> h.above(100, 301, 300));
        // 11 ahead of 13 and 14, 13 ahead of 14: by loans and by shows.
        Told had = Houses.furnished().tell(h -> h.show(100, 600, 9, 35))
            .tell(h -> h.show(100, 600, 35, 45));
        had.refused(11, h -> h.loan(100, 500, 9, 35)).refused(13, h -> h.loan(100, 500, 35, 45));
        had.refused(11, h -> h.hang(100, 803, 500)).refused(13, h -> h.hang(100, 804, 500));
        had.gives(0, h -> h.close(100, 900));
        had.refused(11, h -> h.loan(100, 500, 9, 35)).refused(14, h -> h.loan(100, 500, 35, 45));
        had.refused(11, h -> h.hang(100, 803, 500)).refused(14, h -> h.hang(100, 804, 500));
    }

    /** A refused call leaves all as it was; that a call which is answered would be seen, too. */
    private static void nothingElse() {
        Told t = Houses.furnished();
        String before = Seen.of(t::again);
        for (Houses.Slot slot : Houses.DESK_SLOTS) {
            t.refused(slot.right() == 1 ? 1 : 2,
                h -> slot.call().accept(h, slot.right() == 1 ? 109 : 102));
            boolean changes = !slot.name().endsWith("again");
            Checks.due(!changes, () -> before.equals(Seen.of(() -> {
                MuseumHouse told = t.again();
                slot.call().accept(told, 100);
                return told;
            })));
        }
        t.changesNothing(h -> h.hang(100, 800, 500)).changesNothing(h -> h.take(100, 800, 502));
        t.changesNothing(h -> h.above(100, 300, 301)).changesNothing(h -> h.carry(100, 602, 601));
        t.changesNothing(h -> h.day(0)).changesNothing(h -> h.move(100, 500, 602, 10));
    }
}
