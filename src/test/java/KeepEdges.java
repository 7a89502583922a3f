/** The sentences of promises 11 to 17: objects, stores and moves. */
final class KeepEdges {
    private static final int[] FAR_DAYS = {-1, 10000, Integer.MIN_VALUE, Integer.MAX_VALUE};

    private KeepEdges() {
    }

    static void run() {
        Checks.about("Promise 11", "An object of a find (right 4; rule 9).", KeepEdges::object);
        Checks.about("Promise 12", "A store, in another one or (parent 0) in none (right 4).",
            KeepEdges::store);
        Checks.about("Promise 13", "A store comes into another one, or (parent 0) into none (right "
            + "4; rule 10, also if both are the same)", KeepEdges::carryIsRefused);
        Checks.about("Promise 13", "whether it was elsewhere.", KeepEdges::carry);
        Checks.about("Promise 14", "Whether a store is within another one.", KeepEdges::within);
        Checks.about("Promise 15", "An object is in a store from a day on, not behind today",
            KeepEdges::daysOfMoves);
        Checks.about("Promise 15", "(right 4; at most twelve days of an object; rules 11, 12)",
            KeepEdges::moveIsRefused);
        Checks.about("Promise 15", "at most twelve days of an object", KeepEdges::twelveDays);
        Checks.about("Promise 15", "whether no move was told for that day.", KeepEdges::move);
        Checks.about("Promise 16", "An object's place on a day; 0 without one.", KeepEdges::place);
        Checks.about("Promise 16", "IllegalArgumentException: rule 4.", KeepEdges::placeIsRefused);
        Checks.about("Promise 17", "How many objects have a place on a day that is a store, or "
            + "within it.", KeepEdges::stored);
        Checks.about("Promise 17", "IllegalArgumentException: rule 4.", KeepEdges::storedIsRefused);
    }

    private static void object() {
        Told t = Houses.dug(1).times(30, (h, n) -> h.find(100, 300, 0)).tell(h -> h.desk(100, 59))
            .tell(h -> h.desk(100, 4));
        t.refused(2, h -> h.object(101, 400)).refused(1, h -> h.object(100, 430));
        t.refused(1, h -> h.object(100, 399)).refused(1, h -> h.object(103, 400));
        t.gives(500, h -> h.object(102, 429)).refused(9, h -> h.object(102, 429));
        t.refused(9, h -> h.object(100, 429)).times(28, (h, n) -> h.object(100, 400 + n));
        t.gives(529, h -> h.object(100, 428)).asked(428, h -> h.origin(529));
        t.refused(3, h -> h.object(100, 400)).refused(3, h -> h.object(100, 429));
        t.refused(1, h -> h.object(100, 430)).asked(30, h -> h.count(5));
        new Told().refused(1, h -> h.object(100, 400));
    }

    private static void store() {
        Told t = new Told().refused(1, h -> h.store(100, 600)).refused(1, h -> h.store(100, 1))
            .refused(1, h -> h.store(100, -1)).tell(h -> h.desk(100, 59)).tell(h -> h.desk(100, 4));
        t.refused(2, h -> h.store(101, 0)).refused(1, h -> h.store(101, 600));
        t.gives(600, h -> h.store(102, 0)).refused(1, h -> h.store(100, 601));
        t.gives(601, h -> h.store(102, 600)).refused(2, h -> h.store(101, 600));
        t.gives(602, h -> h.store(100, 601)).gives(603, h -> h.store(100, 0));
        t.asked(true, h -> h.within(602, 600)).asked(false, h -> h.within(603, 600));
        t.refused(1, h -> h.store(100, 604)).times(11, (h, n) -> h.store(100, 603 + n));
        t.gives(615, h -> h.store(100, 614)).asked(true, h -> h.within(615, 603));
        t.refused(3, h -> h.store(100, 0)).refused(3, h -> h.store(100, 615));
        t.refused(1, h -> h.store(100, 616)).asked(16, h -> h.count(6));
        for (int end : new int[] {Integer.MIN_VALUE, Integer.MAX_VALUE}) {
            t.refused(1, h -> h.store(100, end)).refused(1, h -> h.carry(100, 600, end));
        }
    }

    private static void carryIsRefused() {
        Told t = Houses.furnished();
        t.refused(2, h -> h.carry(102, 602, 0)).refused(2, h -> h.carry(102, 602, 600));
        t.refused(1, h -> h.carry(100, 603, 0)).refused(1, h -> h.carry(100, 602, 603));
        t.refused(1, h -> h.carry(100, 0, 0)).refused(1, h -> h.carry(100, 602, 1));
        t.refused(1, h -> h.carry(100, 602, 500)).refused(1, h -> h.carry(103, 602, 0));
        t.refused(10, h -> h.carry(100, 600, 600)).refused(10, h -> h.carry(100, 602, 602));
        t.refused(10, h -> h.carry(100, 600, 601)).refused(10, h -> h.carry(100, 600, 602));
        t.refused(10, h -> h.carry(100, 601, 602)).gives(true, h -> h.carry(100, 601, 0));
        // A ring can be told the other way round, once it is open.
        t.gives(true, h -> h.carry(100, 600, 602)).refused(10, h -> h.carry(100, 601, 600));
        t.asked(true, h -> h.within(600, 601)).asked(false, h -> h.within(601, 600));
    }

    private static void carry() {
        Told t = new Told().times(3, (h, n) -> h.store(100, 0));
        t.gives(false, h -> h.carry(100, 600, 0)).gives(true, h -> h.carry(100, 600, 601));
        t.gives(false, h -> h.carry(100, 600, 601)).changesNothing(h -> h.carry(100, 600, 601));
        t.gives(true, h -> h.carry(100, 600, 602)).gives(true, h -> h.carry(100, 602, 601));
        // Within it already, but not in it.
        t.asked(true, h -> h.within(600, 601)).gives(true, h -> h.carry(100, 600, 601));
        t.asked(false, h -> h.within(600, 602)).gives(true, h -> h.carry(100, 600, 0));
        t.gives(false, h -> h.carry(100, 600, 0)).asked(false, h -> h.within(600, 601));
        // What is in a store is carried with it.
        Told chain = new Told().tell(h -> h.store(100, 0))
            .times(14, (h, n) -> h.store(100, 600 + n));
        chain.gives(615, h -> h.store(100, 0)).gives(true, h -> h.carry(100, 601, 615));
        chain.asked(true, h -> h.within(614, 615)).asked(false, h -> h.within(614, 600));
    }

    private static void within() {
        Told t = Houses.furnished().tell(h -> h.store(100, 600));
        t.asked(true, h -> h.within(601, 600)).asked(true, h -> h.within(602, 600));
        t.asked(false, h -> h.within(600, 601)).asked(false, h -> h.within(600, 600));
        t.asked(false, h -> h.within(602, 602)).asked(false, h -> h.within(603, 601));
        t.asked(false, h -> h.within(601, 603)).refused(1, h -> h.within(600, 604));
        t.refused(1, h -> h.within(604, 600)).refused(1, h -> h.within(604, 604));
        t.refused(1, h -> h.within(600, 0)).refused(1, h -> h.within(0, 600));
        t.refused(1, h -> h.within(599, 600)).refused(1, h -> h.within(600, 700));
        new Told().refused(1, h -> h.within(600, 600));
    }

    private static void daysOfMoves() {
        Told t = Houses.kept(1, 2).gives(true, h -> h.move(100, 500, 600, 100));
        t.asked(0, h -> h.place(500, 99)).asked(600, h -> h.place(500, 100));
        t.asked(600, h -> h.place(500, 9999)).refused(4, h -> h.move(100, 500, 600, 101));
        t.refused(4, h -> h.move(100, 500, 600, 9999)).tell(h -> h.day(1));
        t.gives(true, h -> h.move(100, 500, 601, 101)).refused(4, h -> h.move(100, 500, 600, 102));
        t.asked(600, h -> h.place(500, 100)).asked(601, h -> h.place(500, 101));
        t.gives(true, h -> h.move(100, 500, 601, 99)).asked(600, h -> h.place(500, 100));
        for (int day : FAR_DAYS) {
            t.refused(4, h -> h.move(100, 500, 600, day));
        }
        Houses.dug(1).tell(h -> h.find(100, 300, 0)).tell(h -> h.object(100, 400))
            .tell(h -> h.store(100, 0)).refused(4, h -> h.move(100, 500, 600, 1))
            .gives(true, h -> h.move(100, 500, 600, 0)).asked(600, h -> h.place(500, 0));
    }

    private static void moveIsRefused() {
        Told t = Houses.furnished();
        t.refused(2, h -> h.move(102, 502, 600, 50)).refused(1, h -> h.move(100, 503, 600, 50));
        t.refused(1, h -> h.move(100, 502, 603, 50)).refused(1, h -> h.move(100, 502, 0, 50));
        t.refused(1, h -> h.move(103, 502, 600, 50)).refused(1, h -> h.move(100, 600, 502, 50));
        t.refused(11, h -> h.move(100, 500, 600, 9)).refused(11, h -> h.move(100, 502, 600, 19));
        t.refused(11, h -> h.move(100, 500, 600, 0)).gives(true, h -> h.move(100, 502, 600, 20));
        t.gives(false, h -> h.move(100, 500, 600, 10)).gives(true, h -> h.move(100, 500, 601, 29));
        t.refused(12, h -> h.move(100, 500, 600, 30)).refused(12, h -> h.move(100, 500, 600, 40));
        t.gives(true, h -> h.move(100, 500, 601, 41)).gives(true, h -> h.move(100, 502, 601, 35));
        // A show or an open claim holds no move back.
        t.gives(true, h -> h.move(100, 500, 602, 22)).asked(800, h -> h.where(500, 22));
        t.asked(602, h -> h.place(500, 22));
    }

    private static void twelveDays() {
        Told t = Houses.kept(2, 3);
        for (int number = 0; number < 12; number++) {
            int day = 99 - 7 * number;
            // A day that is refused, or told again, takes no room.
            t.refused(4, h -> h.move(100, 500, 602, 101));
            t.gives(true, h -> h.move(100, 500, 600, day));
            t.gives(false, h -> h.move(100, 500, 601, day));
        }
        t.refused(3, h -> h.move(100, 500, 602, 100)).refused(3, h -> h.move(100, 500, 602, 23));
        t.refused(3, h -> h.move(100, 500, 602, 98)).gives(false, h -> h.move(100, 500, 602, 99));
        t.gives(false, h -> h.move(100, 500, 602, 22)).asked(602, h -> h.place(500, 28));
        t.asked(601, h -> h.place(500, 29)).asked(602, h -> h.place(500, 99));
        // Each object has its own twelve.
        t.gives(true, h -> h.move(100, 501, 602, 100))
            .times(11, (h, n) -> h.move(100, 501, 600, 10 + n));
        t.refused(3, h -> h.move(100, 501, 600, 21)).gives(false, h -> h.move(100, 501, 600, 20));
    }

    private static void move() {
        Told t = Houses.kept(2, 2).gives(true, h -> h.move(100, 500, 600, 50));
        t.gives(false, h -> h.move(100, 500, 600, 50)).gives(false, h -> h.move(100, 500, 601, 50));
        t.gives(true, h -> h.move(100, 500, 601, 49)).gives(true, h -> h.move(100, 500, 601, 51));
        t.gives(true, h -> h.move(100, 501, 601, 50)).gives(false, h -> h.move(100, 500, 601, 50));
        t.gives(true, h -> h.move(100, 500, 600, 10)).gives(false, h -> h.move(100, 500, 600, 10));
        // A refused telling is none.
        t.refused(4, h -> h.move(100, 500, 600, 101)).tell(h -> h.day(1));
        t.gives(true, h -> h.move(100, 500, 600, 101));
    }

    private static void place() {
        Told t = Houses.furnished();
        t.asked(0, h -> h.place(502, 0)).asked(0, h -> h.place(502, 9999));
        t.asked(0, h -> h.place(500, 0)).asked(0, h -> h.place(500, 9));
        t.asked(602, h -> h.place(500, 10)).asked(602, h -> h.place(500, 49));
        t.asked(600, h -> h.place(500, 50)).asked(600, h -> h.place(500, 9999));
        // A loan or a show is no other place.
        t.asked(602, h -> h.place(500, 22)).asked(602, h -> h.place(500, 35));
        // The store may be carried: the place is the store still.
        t.tell(h -> h.carry(100, 602, 0)).asked(602, h -> h.place(500, 10));
    }

    private static void placeIsRefused() {
        Told t = Houses.furnished();
        for (int day : FAR_DAYS) {
            t.refused(4, h -> h.place(500, day)).refused(1, h -> h.place(503, day));
        }
        t.refused(1, h -> h.place(503, 0)).refused(1, h -> h.place(499, 0));
        new Told().refused(1, h -> h.place(500, 0));
    }

    private static void stored() {
        Told none = new Told().tell(h -> h.store(100, 0)).asked(0, h -> h.stored(600, 0));
        none.asked(0, h -> h.stored(600, 9999));
        Told t = Houses.furnished();
        t.asked(0, h -> h.stored(600, 9)).asked(1, h -> h.stored(600, 10));
        t.asked(1, h -> h.stored(601, 10)).asked(1, h -> h.stored(602, 10));
        t.asked(1, h -> h.stored(600, 50)).asked(0, h -> h.stored(601, 50));
        t.asked(1, h -> h.stored(602, 49)).asked(0, h -> h.stored(602, 50));
        // On loan or in a show, an object has its place.
        t.asked(1, h -> h.stored(600, 35)).asked(1, h -> h.stored(602, 22));
        t.tell(h -> h.carry(100, 602, 0)).asked(0, h -> h.stored(600, 10));
        t.asked(1, h -> h.stored(602, 10)).asked(1, h -> h.stored(600, 9999));
        Told all = Houses.kept(30, 1).times(15, (h, n) -> h.store(100, 600 + n))
            .times(30, (h, n) -> h.move(100, 500 + n, 600 + n % 16, 10 + n));
        all.asked(0, h -> h.stored(600, 9)).asked(1, h -> h.stored(600, 10));
        all.asked(29, h -> h.stored(600, 38)).asked(30, h -> h.stored(600, 39));
        all.asked(1, h -> h.stored(615, 39)).asked(0, h -> h.stored(615, 24));
        all.asked(1, h -> h.stored(615, 25)).asked(2, h -> h.stored(614, 9999));
        all.asked(14, h -> h.stored(608, 9999));
    }

    private static void storedIsRefused() {
        Told t = Houses.furnished();
        for (int day : FAR_DAYS) {
            t.refused(4, h -> h.stored(600, day)).refused(1, h -> h.stored(603, day));
        }
        t.refused(1, h -> h.stored(603, 0)).refused(1, h -> h.stored(0, 0));
        new Told().refused(1, h -> h.stored(600, 0));
    }
}
