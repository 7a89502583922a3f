/** The sentences of promises 18 to 25: loans, shows, claims, and where an object is. */
final class LendEdges {
    private static final int[] FAR_DAYS = {-1, 10000, Integer.MIN_VALUE, Integer.MAX_VALUE};
    private static final int[][] WRONG_DAYS = {
        {31, 30}, {9999, 0}, {1, 0}, {9999, 9998}, {-1, 30}, {-1, -1}, {30, 10000}, {10000, 10000},
        {10000, 30}, {30, -1}, {Integer.MIN_VALUE, 30}, {30, Integer.MAX_VALUE},
        {Integer.MIN_VALUE, Integer.MAX_VALUE}, {Integer.MAX_VALUE, Integer.MIN_VALUE},
        {Integer.MAX_VALUE, 30}, {30, Integer.MIN_VALUE}
    };

    private LendEdges() {
    }

    static void run() {
        Checks.about("Promise 18", "A loan of an object from a day to one not ahead of it",
            LendEdges::loan);
        Checks.about("Promise 18", "(right 8; rules 11, 13, 14).", LendEdges::loanIsRefused);
        Checks.about("Promise 19", "A loan ends on one of its days (right 8; rule 15)",
            LendEdges::back);
        Checks.about("Promise 19", "the day that was its last.", LendEdges::backTellsTheLast);
        Checks.about("Promise 20", "A show in a store from a day to one not ahead of it (right "
            + "16).", LendEdges::show);
        Checks.about("Promise 21", "An object comes into a show: whether it was not in it",
            LendEdges::hang);
        Checks.about("Promise 21", "(if it is, no rule is asked but 1 and 2)",
            LendEdges::hungAgain);
        Checks.about("Promise 21", "(right 16; rules 11 by the show's first day, 13, 14).",
            LendEdges::hangIsRefused);
        Checks.about("Promise 22", "An object goes out of a show: whether it was in it (right 16).",
            LendEdges::take);
        claims();
        whereabouts();
    }

    private static void claims() {
        Checks.about("Promise 23", "A claim for an object by a source 0 .. 9", LendEdges::claim);
        Checks.about("Promise 23", "(right 32; rule 16: an open one of that source for it).",
            LendEdges::claimIsRefused);
        Checks.about("Promise 24", "A claim is closed (right 32; rule 17)",
            LendEdges::closeIsRefused);
        Checks.about("Promise 24", "how many of its object are open then.", LendEdges::close);
    }

    private static void whereabouts() {
        Checks.about("Promise 25", "Where an object is on a day: 0 ahead of its own day;",
            LendEdges::aheadOfItsDay);
        Checks.about("Promise 25", "the loan or the show that has it;", LendEdges::whoHasIt);
        Checks.about("Promise 25", "else its place;", LendEdges::elseItsPlace);
        Checks.about("Promise 25", "1 if it has none.", LendEdges::noPlace);
        Checks.about("Promise 25", "IllegalArgumentException: rule 4.", LendEdges::whereIsRefused);
    }

    private static void loan() {
        Told t = Houses.kept(3, 0).gives(700, h -> h.loan(100, 500, 30, 30))
            .gives(701, h -> h.loan(100, 500, 31, 32)).gives(702, h -> h.loan(100, 501, 10, 9999))
            .gives(703, h -> h.loan(100, 502, 9999, 9999))
            .gives(704, h -> h.loan(100, 502, 10, 10));
        t.asked(700, h -> h.where(500, 30)).asked(701, h -> h.where(500, 31));
        t.asked(702, h -> h.where(501, 10)).asked(702, h -> h.where(501, 9999));
        t.asked(703, h -> h.where(502, 9999)).asked(1, h -> h.where(502, 9998));
        Told wrong = Houses.dug(1).tell(h -> h.find(100, 300, 0)).tell(h -> h.object(100, 400));
        for (int[] days : WRONG_DAYS) {
            wrong.refused(4, h -> h.loan(100, 500, days[0], days[1]));
        }
        wrong.gives(700, h -> h.loan(100, 500, 0, 0)).gives(701, h -> h.loan(100, 500, 1, 9999));
    }

    private static void loanIsRefused() {
        Told t = Houses.furnished();
        t.refused(2, h -> h.loan(102, 502, 50, 60)).refused(1, h -> h.loan(100, 503, 50, 60));
        t.refused(1, h -> h.loan(103, 502, 50, 60)).refused(11, h -> h.loan(100, 502, 19, 60));
        t.refused(11, h -> h.loan(100, 502, 19, 19)).refused(13, h -> h.loan(100, 500, 80, 90));
        t.refused(14, h -> h.loan(100, 501, 60, 70)).refused(14, h -> h.loan(100, 501, 40, 50));
        t.gives(0, h -> h.close(100, 900)).refused(14, h -> h.loan(100, 500, 25, 26));
        t.refused(14, h -> h.loan(100, 500, 19, 20)).gives(702, h -> h.loan(100, 500, 26, 29));
        t.gives(703, h -> h.loan(100, 500, 19, 19)).gives(704, h -> h.loan(100, 502, 20, 20));
        t.gives(705, h -> h.loan(100, 501, 61, 61)).gives(706, h -> h.loan(100, 501, 0, 49));
    }

    private static void back() {
        Told t = Houses.furnished();
        t.refused(2, h -> h.back(102, 700, 35)).refused(1, h -> h.back(100, 702, 35));
        t.refused(1, h -> h.back(103, 700, 35)).refused(15, h -> h.back(100, 700, 29));
        t.refused(15, h -> h.back(100, 700, 41)).refused(15, h -> h.back(100, 700, 55));
        for (int day : FAR_DAYS) {
            t.refused(4, h -> h.back(100, 700, day));
        }
        t.gives(40, h -> h.back(100, 700, 35)).asked(700, h -> h.where(500, 35));
        t.asked(602, h -> h.where(500, 36)).refused(15, h -> h.back(100, 700, 36));
        t.gives(35, h -> h.back(100, 700, 30)).asked(700, h -> h.where(500, 30));
        t.asked(602, h -> h.where(500, 31)).refused(15, h -> h.back(100, 700, 31));
        t.refused(15, h -> h.back(100, 700, 29)).asked(701, h -> h.where(501, 60));
        t.asked(2, h -> h.count(7));
        // The days that the loan has no more are free.
        t.gives(0, h -> h.close(100, 900)).refused(14, h -> h.loan(100, 500, 30, 40));
        t.gives(702, h -> h.loan(100, 500, 31, 40)).gives(true, h -> h.move(100, 500, 600, 41));
        // A loan whose days are all behind today may end, too.
        t.gives(703, h -> h.loan(100, 502, 5000, 9999)).gives(9999, h -> h.back(100, 703, 5000));
        new Told().refused(1, h -> h.back(100, 700, 0));
    }

    private static void backTellsTheLast() {
        Told t = Houses.kept(1, 0).tell(h -> h.loan(100, 500, 30, 40))
            .tell(h -> h.loan(100, 500, 50, 50));
        t.gives(40, h -> h.back(100, 700, 40)).gives(40, h -> h.back(100, 700, 39));
        t.gives(39, h -> h.back(100, 700, 30)).gives(30, h -> h.back(100, 700, 30));
        t.gives(50, h -> h.back(100, 701, 50)).gives(50, h -> h.back(100, 701, 50));
        t.changesNothing(h -> h.back(100, 701, 50));
        // A refused telling is none.
        Told refused = Houses.kept(1, 0).tell(h -> h.loan(100, 500, 30, 40));
        refused.refused(15, h -> h.back(100, 700, 29)).gives(40, h -> h.back(100, 700, 31));
    }

    private static void show() {
        Told t = Houses.furnished().tell(h -> h.desk(100, 47)).tell(h -> h.desk(100, 16));
        t.refused(2, h -> h.show(103, 600, 50, 60)).refused(1, h -> h.show(100, 603, 50, 60));
        t.refused(1, h -> h.show(100, 0, 50, 60)).refused(1, h -> h.show(105, 600, 50, 60));
        for (int[] days : WRONG_DAYS) {
            t.refused(4, h -> h.show(100, 600, days[0], days[1]));
        }
        t.gives(803, h -> h.show(104, 602, 30, 30)).gives(804, h -> h.show(100, 600, 0, 9999));
        t.gives(805, h -> h.show(100, 600, 0, 0)).gives(806, h -> h.show(100, 600, 9999, 9999));
        // A store may have several shows on a day.
        t.times(3, (h, n) -> h.show(100, 600, 30, 30)).refused(3, h -> h.show(100, 600, 30, 30));
        t.refused(3, h -> h.show(100, 600, 30, 29)).asked(10, h -> h.count(8));
        new Told().refused(1, h -> h.show(100, 600, 0, 0));
    }

    private static void hang() {
        Told t = Houses.kept(30, 1).tell(h -> h.show(100, 600, 10, 20))
            .tell(h -> h.show(100, 600, 30, 40));
        for (int number = 0; number < 30; number++) {
            int object = 500 + number;
            t.gives(true, h -> h.hang(100, 800, object));
            t.gives(false, h -> h.hang(100, 800, object));
        }
        t.asked(800, h -> h.where(500, 10)).asked(800, h -> h.where(529, 20));
        t.gives(true, h -> h.hang(100, 801, 529)).gives(false, h -> h.hang(100, 800, 529));
        t.gives(true, h -> h.take(100, 800, 529)).gives(true, h -> h.hang(100, 800, 529));
    }

    private static void hungAgain() {
        // 11 and 14 can't come to be refused by it; an open claim, 13, can.
        Told t = Houses.furnished();
        t.gives(false, h -> h.hang(100, 800, 500)).changesNothing(h -> h.hang(100, 800, 500));
        t.refused(2, h -> h.hang(102, 800, 500)).refused(1, h -> h.hang(103, 800, 500));
        t.refused(1, h -> h.hang(100, 803, 500)).refused(1, h -> h.hang(100, 800, 503));
        t.gives(true, h -> h.take(100, 800, 500)).refused(13, h -> h.hang(100, 800, 500));
    }

    private static void hangIsRefused() {
        Told t = Houses.furnished();
        t.refused(2, h -> h.hang(102, 802, 502)).refused(1, h -> h.hang(100, 803, 502));
        t.refused(1, h -> h.hang(100, 802, 503)).refused(1, h -> h.hang(100, 502, 802));
        t.refused(1, h -> h.hang(103, 802, 502)).refused(13, h -> h.hang(100, 802, 500));
        t.refused(14, h -> h.hang(100, 802, 501)).refused(11, h -> h.hang(100, 801, 502));
        // By the show's first day, though the object's own day is one of the show's.
        t.tell(h -> h.show(100, 600, 19, 45)).tell(h -> h.show(100, 600, 20, 45));
        t.refused(11, h -> h.hang(100, 803, 502)).gives(true, h -> h.hang(100, 804, 502));
        t.tell(h -> h.show(100, 600, 45, 49)).refused(14, h -> h.hang(100, 805, 502));
        t.tell(h -> h.show(100, 600, 46, 49)).gives(true, h -> h.hang(100, 806, 502));
        t.gives(true, h -> h.hang(100, 806, 501)).asked(806, h -> h.where(501, 49));
        t.asked(701, h -> h.where(501, 50)).tell(h -> h.show(100, 600, 61, 61));
        t.gives(true, h -> h.hang(100, 807, 501)).asked(807, h -> h.where(501, 61));
        new Told().refused(1, h -> h.hang(100, 800, 500));
    }

    private static void take() {
        Told t = Houses.furnished().gives(true, h -> h.hang(100, 802, 502));
        t.refused(2, h -> h.take(102, 800, 500)).refused(2, h -> h.take(102, 800, 501));
        t.refused(1, h -> h.take(100, 803, 500)).refused(1, h -> h.take(100, 800, 503));
        t.refused(1, h -> h.take(103, 800, 500)).gives(false, h -> h.take(100, 800, 501));
        t.changesNothing(h -> h.take(100, 800, 501)).gives(false, h -> h.take(100, 802, 500));
        // An open claim holds nothing back.
        t.gives(true, h -> h.take(100, 800, 500)).gives(false, h -> h.take(100, 800, 500));
        t.asked(602, h -> h.where(500, 20)).asked(802, h -> h.where(502, 60));
        t.gives(true, h -> h.take(100, 802, 502)).asked(1, h -> h.where(502, 60));
        t.gives(702, h -> h.loan(100, 502, 60, 70)).refused(14, h -> h.hang(100, 802, 502));
        Told last = Houses.kept(30, 1).tell(h -> h.show(100, 600, 10, 20));
        last.tell(h -> h.hang(100, 800, 529)).tell(h -> h.hang(100, 800, 500));
        last.gives(true, h -> h.take(100, 800, 529)).asked(1, h -> h.where(529, 10));
        last.asked(800, h -> h.where(500, 10)).gives(false, h -> h.take(100, 800, 528));
        new Told().refused(1, h -> h.take(100, 800, 500));
    }

    private static void claim() {
        Told t = Houses.kept(2, 0);
        for (int source = 0; source <= 9; source++) {
            int by = source;
            t.gives(900 + source, h -> h.claim(100, 500, by));
        }
        for (int source : new int[] {-1, 10, 256, 65536, Integer.MIN_VALUE, Integer.MAX_VALUE}) {
            t.refused(4, h -> h.claim(100, 501, source)).refused(4, h -> h.claim(100, 500, source));
        }
        t.times(10, (h, n) -> h.claim(100, 501, n)).asked(20, h -> h.count(9));
        t.refused(3, h -> h.claim(100, 501, 0)).refused(3, h -> h.claim(100, 501, 10));
        t.gives(9, h -> h.close(100, 919)).refused(3, h -> h.claim(100, 501, 9));
        // A claim takes nothing out of a loan or a show that has the object already.
        Houses.furnished().tell(h -> h.hang(100, 802, 502)).gives(902, h -> h.claim(100, 502, 0))
            .asked(802, h -> h.where(502, 60)).gives(903, h -> h.claim(100, 501, 4))
            .asked(701, h -> h.where(501, 50));
    }

    private static void claimIsRefused() {
        Told t = Houses.furnished();
        t.refused(2, h -> h.claim(102, 502, 1)).refused(1, h -> h.claim(100, 503, 1));
        t.refused(1, h -> h.claim(103, 502, 1)).refused(16, h -> h.claim(100, 500, 3));
        t.gives(902, h -> h.claim(100, 501, 3)).gives(903, h -> h.claim(100, 500, 2));
        t.gives(904, h -> h.claim(100, 500, 4)).refused(16, h -> h.claim(100, 500, 3));
        t.gives(905, h -> h.claim(100, 501, 4)).gives(2, h -> h.close(100, 900));
        t.gives(906, h -> h.claim(100, 500, 3)).refused(16, h -> h.claim(100, 500, 3));
        new Told().refused(1, h -> h.claim(100, 500, 0));
    }

    private static void closeIsRefused() {
        Told t = Houses.furnished();
        t.refused(2, h -> h.close(102, 900)).refused(1, h -> h.close(100, 902));
        t.refused(1, h -> h.close(103, 900)).refused(17, h -> h.close(100, 901));
        t.gives(0, h -> h.close(100, 900)).refused(17, h -> h.close(100, 900));
        t.gives(902, h -> h.claim(100, 500, 3)).refused(17, h -> h.close(100, 900));
        t.gives(0, h -> h.close(100, 902)).asked(3, h -> h.count(9));
        new Told().refused(1, h -> h.close(100, 900));
    }

    private static void close() {
        Told t = Houses.kept(2, 0).times(10, (h, n) -> h.claim(100, 500, n))
            .times(10, (h, n) -> h.claim(100, 501, n));
        for (int number = 0; number < 10; number++) {
            int claim = 919 - number;
            int left = 9 - number;
            t.gives(left, h -> h.close(100, claim));
        }
        t.gives(9, h -> h.close(100, 900)).gives(8, h -> h.close(100, 909));
        t.gives(700, h -> h.loan(100, 501, 20, 30)).refused(13, h -> h.loan(100, 500, 20, 30));
    }

    private static void aheadOfItsDay() {
        Told t = Houses.furnished().asked(0, h -> h.where(500, 0)).asked(0, h -> h.where(500, 9));
        t.asked(602, h -> h.where(500, 10)).asked(0, h -> h.where(502, 19));
        t.asked(1, h -> h.where(502, 20)).asked(1, h -> h.where(501, 0));
        Houses.dug(1).daysTo(9999).tell(h -> h.find(100, 300, 9999)).tell(h -> h.object(100, 400))
            .asked(0, h -> h.where(500, 9998)).asked(1, h -> h.where(500, 9999));
    }

    private static void whoHasIt() {
        Told t = Houses.furnished();
        t.asked(602, h -> h.where(500, 19)).asked(800, h -> h.where(500, 20));
        t.asked(800, h -> h.where(500, 25)).asked(602, h -> h.where(500, 26));
        t.asked(602, h -> h.where(500, 29)).asked(700, h -> h.where(500, 30));
        t.asked(700, h -> h.where(500, 40)).asked(602, h -> h.where(500, 41));
        t.asked(701, h -> h.where(501, 50)).asked(701, h -> h.where(501, 60));
        // A show has only what hangs in it.
        t.asked(1, h -> h.where(501, 22)).asked(1, h -> h.where(502, 60));
        // A loan and a show with a day in between, and with none.
        t.tell(h -> h.show(100, 600, 61, 61)).gives(true, h -> h.hang(100, 803, 501));
        t.asked(701, h -> h.where(501, 60)).asked(803, h -> h.where(501, 61));
        t.asked(1, h -> h.where(501, 62));
    }

    private static void elseItsPlace() {
        Told t = Houses.furnished().asked(602, h -> h.where(500, 49));
        t.asked(600, h -> h.where(500, 50)).asked(600, h -> h.where(500, 9999));
        t.gives(true, h -> h.move(100, 500, 601, 41)).asked(602, h -> h.where(500, 26));
        t.asked(601, h -> h.where(500, 41)).asked(601, h -> h.where(500, 49));
        t.gives(true, h -> h.take(100, 800, 500)).asked(602, h -> h.where(500, 25));
    }

    private static void noPlace() {
        Told t = Houses.furnished();
        t.asked(1, h -> h.where(502, 20)).asked(1, h -> h.where(502, 9999));
        t.gives(true, h -> h.move(100, 502, 600, 30)).asked(1, h -> h.where(502, 29));
        t.asked(600, h -> h.where(502, 30)).asked(1, h -> h.where(501, 49));
        t.asked(1, h -> h.where(501, 61)).asked(0, h -> h.place(501, 61));
    }

    private static void whereIsRefused() {
        Told t = Houses.furnished();
        for (int day : FAR_DAYS) {
            t.refused(4, h -> h.where(500, day)).refused(1, h -> h.where(503, day));
        }
        t.refused(1, h -> h.where(503, 0)).refused(1, h -> h.where(499, 0));
        new Told().refused(1, h -> h.where(500, 0));
    }
}
