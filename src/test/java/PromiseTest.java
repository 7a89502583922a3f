import java.util.NoSuchElementException;

/** Each promise of the document: ordinary inputs, its edges, and wrong inputs. */
public final class PromiseTest {
    private static final int[] WRONG_HANDLES = {
        0, 1, -1, 99, 100_000, Integer.MAX_VALUE, Integer.MIN_VALUE, -100, -300, -500
    };

    public static void main(String[] args) {
        newHouse();
        desks();
        days();
        sites();
        contexts();
        above();
        spans();
        isAbove();
        years();
        finds();
        objects();
        stores();
        carry();
        within();
        move();
        moveOnDayZero();
        moveRoom();
        place();
        stored();
        loan();
        loanRoom();
        back();
        show();
        hang();
        take();
        claim();
        close();
        where();
        origin();
        hall();
        rule();
        count();
        fullHouse();
        Checks.end();
    }

    /** Site 200 with context 300, today 100, objects 500 (of day 10) and 501 (of day 0). */
    static MuseumHouse furnished() {
        MuseumHouse h = new MuseumHouse();
        h.site(100);
        h.context(100, 200);
        h.day(100);
        h.find(100, 300, 10);
        h.find(100, 300, 0);
        h.object(100, 400);
        h.object(100, 401);
        h.store(100, 0);
        h.store(100, 600);
        h.store(100, 601);
        h.store(100, 0);
        return h;
    }

    private static void newHouse() {
        MuseumHouse h = new MuseumHouse();
        Checks.due(0, () -> h.rule());
        Checks.due(0, () -> h.day(0));
        Checks.due(1, () -> h.count(1));
        for (int kind = 2; kind <= 9; kind++) {
            int asked = kind;
            Checks.due(0, () -> h.count(asked));
        }
        Checks.due(101, () -> h.desk(100, 63));
        MuseumHouse other = new MuseumHouse();
        Checks.due(1, () -> other.count(1));
    }

    private static void desks() {
        MuseumHouse h = new MuseumHouse();
        Checks.due(101, () -> h.desk(100, 63));
        Checks.due(102, () -> h.desk(101, 0));
        Checks.due(103, () -> h.desk(101, 1));
        Checks.due(104, () -> h.desk(103, 1));
        Checks.refused(5, h, () -> h.desk(103, 2));
        Checks.refused(5, h, () -> h.desk(103, 3));
        Checks.refused(2, h, () -> h.desk(102, 0));
        Checks.refused(2, h, () -> h.desk(102, 64));
        Checks.refused(4, h, () -> h.desk(103, 64));
        Checks.refused(4, h, () -> h.desk(103, -1));
        Checks.refused(4, h, () -> h.desk(103, Integer.MIN_VALUE));
        Checks.refused(1, h, () -> h.desk(105, 0));
        Checks.due(105, () -> h.desk(103, 0));
        Checks.due(6, () -> h.count(1));
        Checks.refused(3, h, () -> h.desk(100, 0));
        Checks.refused(3, h, () -> h.desk(100, 64));
        Checks.refused(2, h, () -> h.desk(102, 0));
        Checks.refused(1, h, () -> h.desk(106, 64));
        for (int handle : WRONG_HANDLES) {
            Checks.refused(1, h, () -> h.desk(handle, 0));
        }
        everyRight();
    }

    /** A desk with one right may do what asks for that one, and nothing else. */
    private static void everyRight() {
        for (int bit = 0; bit < 6; bit++) {
            MuseumHouse h = furnished();
            h.loan(100, 501, 50, 60);
            h.show(100, 600, 70, 80);
            h.claim(100, 500, 1);
            int right = 1 << bit;
            h.desk(100, right);
            Runnable[][] byRight = {
                {() -> h.desk(101, 0)},
                {() -> h.site(101), () -> h.context(101, 200), () -> h.above(101, 301, 300),
                    () -> h.span(101, 300, 0, 9), () -> h.find(101, 300, 0)},
                {() -> h.object(101, 402), () -> h.store(101, 0), () -> h.carry(101, 601, 0),
                    () -> h.move(101, 501, 600, 5)},
                {() -> h.loan(101, 501, 90, 90), () -> h.back(101, 700, 55)},
                {() -> h.show(101, 600, 1, 2), () -> h.hang(101, 800, 501),
                    () -> h.take(101, 800, 501)},
                {() -> h.claim(101, 501, 2), () -> h.close(101, 900)},
            };
            h.context(100, 200);
            h.find(100, 301, 0);
            for (int asked = 0; asked < 6; asked++) {
                for (Runnable call : byRight[asked]) {
                    if (asked == bit) {
                        Checks.due(0, () -> {
                            call.run();
                            return 0;
                        });
                    } else {
                        Checks.refused(2, h, call);
                    }
                }
            }
        }
    }

    private static void days() {
        MuseumHouse h = new MuseumHouse();
        Checks.due(0, () -> h.day(0));
        Checks.due(1, () -> h.day(1));
        Checks.refused(4, h, () -> h.day(-1));
        Checks.refused(4, h, () -> h.day(1001));
        Checks.refused(4, h, () -> h.day(Integer.MAX_VALUE));
        Checks.refused(4, h, () -> h.day(Integer.MIN_VALUE));
        Checks.due(1, () -> h.day(0));
        for (int times = 1; times <= 9; times++) {
            int then = 1 + 1000 * times;
            Checks.due(then, () -> h.day(1000));
        }
        Checks.refused(4, h, () -> h.day(1000));
        Checks.refused(4, h, () -> h.day(999));
        Checks.due(9999, () -> h.day(998));
        Checks.refused(4, h, () -> h.day(1));
        Checks.due(9999, () -> h.day(0));
    }

    private static void sites() {
        MuseumHouse h = new MuseumHouse();
        for (int number = 0; number < 4; number++) {
            int due = 200 + number;
            Checks.due(due, () -> h.site(100));
        }
        Checks.refused(3, h, () -> h.site(100));
        Checks.refused(1, h, () -> h.site(101));
        Checks.refused(1, h, () -> h.site(200));
        h.desk(100, 61);
        Checks.refused(2, h, () -> h.site(101));
        Checks.due(4, () -> h.count(2));
    }

    private static void contexts() {
        MuseumHouse h = new MuseumHouse();
        Checks.refused(1, h, () -> h.context(100, 200));
        h.site(100);
        h.site(100);
        for (int number = 0; number < 20; number++) {
            int due = 300 + number;
            Checks.due(due, () -> h.context(100, 200 + due % 2));
            Checks.due(200 + due % 2, () -> h.origin(due));
            Checks.due(0, () -> h.year(due, 0));
            Checks.due(999, () -> h.year(due, 1));
        }
        Checks.refused(3, h, () -> h.context(100, 200));
        Checks.refused(1, h, () -> h.context(100, 202));
        Checks.refused(1, h, () -> h.context(100, 100));
        Checks.refused(1, h, () -> h.context(200, 200));
    }

    /** Contexts 300 .. 304 of site 200, and 305 of site 201. */
    private static MuseumHouse layers() {
        MuseumHouse h = new MuseumHouse();
        h.site(100);
        h.site(100);
        for (int number = 0; number < 5; number++) {
            h.context(100, 200);
        }
        h.context(100, 201);
        return h;
    }

    private static void above() {
        MuseumHouse h = layers();
        Checks.due(true, () -> h.above(100, 300, 301));
        Checks.due(false, () -> h.above(100, 300, 301));
        Checks.due(true, () -> h.above(100, 302, 303));
        Checks.due(true, () -> h.above(100, 301, 302));
        Checks.due(false, () -> h.above(100, 300, 303));
        Checks.due(false, () -> h.above(100, 301, 303));
        Checks.refused(7, h, () -> h.above(100, 303, 300));
        Checks.refused(7, h, () -> h.above(100, 301, 300));
        Checks.refused(7, h, () -> h.above(100, 304, 304));
        Checks.refused(6, h, () -> h.above(100, 300, 305));
        Checks.refused(6, h, () -> h.above(100, 305, 300));
        Checks.refused(1, h, () -> h.above(100, 306, 300));
        Checks.refused(1, h, () -> h.above(100, 300, 306));
        Checks.refused(1, h, () -> h.above(100, 200, 300));
        Checks.refused(1, h, () -> h.above(101, 300, 304));
        Checks.due(true, () -> h.above(100, 304, 300));
        Checks.due(true, () -> h.isAbove(304, 303));
        aboveByYears();
        aboveByYearsFarOff();
    }

    private static void aboveByYears() {
        MuseumHouse h = layers();
        h.span(100, 300, 0, 400);
        h.span(100, 301, 401, 900);
        Checks.refused(8, h, () -> h.above(100, 300, 301));
        Checks.due(false, () -> h.isAbove(300, 301));
        h.span(100, 301, 400, 900);
        Checks.due(true, () -> h.above(100, 300, 301));
        Checks.due(400, () -> h.year(300, 0));
        Checks.due(400, () -> h.year(301, 1));
        // Rule 7 is asked ahead of rule 8, and rule 6 ahead of both.
        Checks.refused(7, h, () -> h.above(100, 301, 300));
        h.span(100, 305, 900, 900);
        Checks.refused(6, h, () -> h.above(100, 300, 305));
    }

    /** The years that don't fit are those of contexts beyond the two that are told. */
    private static void aboveByYearsFarOff() {
        MuseumHouse h = layers();
        h.above(100, 300, 301);
        h.above(100, 302, 303);
        h.span(100, 300, 0, 100);
        h.span(100, 303, 200, 999);
        Checks.refused(8, h, () -> h.above(100, 301, 302));
        Checks.due(false, () -> h.isAbove(301, 302));
        Checks.due(false, () -> h.isAbove(300, 303));
        Checks.due(0, () -> h.year(300, 0));
        Checks.due(999, () -> h.year(303, 1));
        h.span(100, 303, 100, 999);
        Checks.due(true, () -> h.above(100, 301, 302));
        Checks.due(100, () -> h.year(300, 0));
        Checks.due(100, () -> h.year(301, 1));
        Checks.due(100, () -> h.year(303, 1));
    }

    private static void spans() {
        MuseumHouse h = layers();
        Checks.due(0, () -> h.span(100, 300, 0, 999));
        Checks.due(0, () -> h.span(100, 300, 0, 0));
        Checks.due(999, () -> h.span(100, 300, 999, 999));
        Checks.refused(4, h, () -> h.span(100, 300, -1, 5));
        Checks.refused(4, h, () -> h.span(100, 300, 0, 1000));
        Checks.refused(4, h, () -> h.span(100, 300, 5, 4));
        Checks.refused(4, h, () -> h.span(100, 300, Integer.MIN_VALUE, Integer.MAX_VALUE));
        Checks.refused(1, h, () -> h.span(100, 306, 0, 9));
        Checks.refused(1, h, () -> h.span(99, 300, 0, 9));
        Checks.due(999, () -> h.year(300, 0));
        h.span(100, 300, 0, 999);
        h.above(100, 300, 301);
        h.above(100, 301, 302);
        Checks.due(300, () -> h.span(100, 302, 300, 600));
        Checks.due(300, () -> h.span(100, 300, 100, 300));
        Checks.refused(8, h, () -> h.span(100, 300, 100, 299));
        Checks.refused(8, h, () -> h.span(100, 302, 301, 600));
        Checks.refused(8, h, () -> h.span(100, 301, 301, 600));
        Checks.refused(8, h, () -> h.span(100, 301, 0, 299));
        Checks.refused(4, h, () -> h.span(100, 301, 301, 300));
        Checks.due(300, () -> h.span(100, 301, 300, 300));
        Checks.due(300, () -> h.year(302, 1));
        // Contexts beside one another do not bind one another.
        Checks.due(700, () -> h.span(100, 304, 700, 800));
        Checks.due(900, () -> h.span(100, 305, 900, 900));
    }

    private static void isAbove() {
        MuseumHouse h = layers();
        h.above(100, 300, 301);
        h.above(100, 301, 302);
        Checks.due(true, () -> h.isAbove(300, 301));
        Checks.due(true, () -> h.isAbove(300, 302));
        Checks.due(false, () -> h.isAbove(302, 300));
        Checks.due(false, () -> h.isAbove(300, 300));
        Checks.due(false, () -> h.isAbove(300, 303));
        Checks.due(false, () -> h.isAbove(300, 305));
        Checks.refused(1, h, () -> h.isAbove(300, 306));
        Checks.refused(1, h, () -> h.isAbove(306, 300));
        for (int handle : WRONG_HANDLES) {
            Checks.refused(1, h, () -> h.isAbove(handle, 300));
        }
        longestChain();
    }

    private static void longestChain() {
        MuseumHouse h = new MuseumHouse();
        h.site(100);
        for (int number = 0; number < 20; number++) {
            h.context(100, 200);
        }
        for (int number = 0; number < 19; number++) {
            h.above(100, 319 - number, 318 - number);
        }
        Checks.due(true, () -> h.isAbove(319, 300));
        Checks.due(false, () -> h.isAbove(300, 319));
        Checks.due(950, () -> h.span(100, 300, 950, 999));
        Checks.due(950, () -> h.year(319, 0));
        Checks.refused(7, h, () -> h.above(100, 300, 319));
        Checks.refused(8, h, () -> h.span(100, 319, 0, 949));
    }

    private static void years() {
        MuseumHouse h = layers();
        h.above(100, 300, 301);
        h.above(100, 302, 301);
        h.span(100, 300, 10, 500);
        h.span(100, 302, 20, 400);
        h.span(100, 301, 5, 900);
        Checks.due(10, () -> h.year(300, 0));
        Checks.due(500, () -> h.year(300, 1));
        Checks.due(20, () -> h.year(302, 0));
        Checks.due(5, () -> h.year(301, 0));
        Checks.due(400, () -> h.year(301, 1));
        // Told again, the years follow the later telling, also to wider ones.
        h.span(100, 302, 0, 999);
        Checks.due(500, () -> h.year(301, 1));
        Checks.due(5, () -> h.year(302, 0));
        Checks.refused(4, h, () -> h.year(300, 2));
        Checks.refused(4, h, () -> h.year(300, -1));
        Checks.refused(1, h, () -> h.year(306, 2));
        for (int handle : WRONG_HANDLES) {
            Checks.refused(1, h, () -> h.year(handle, 0));
        }
    }

    private static void finds() {
        MuseumHouse h = new MuseumHouse();
        h.site(100);
        h.context(100, 200);
        Checks.refused(4, h, () -> h.find(100, 300, 1));
        Checks.due(400, () -> h.find(100, 300, 0));
        h.day(50);
        Checks.due(401, () -> h.find(100, 300, 50));
        Checks.refused(4, h, () -> h.find(100, 300, 51));
        Checks.refused(4, h, () -> h.find(100, 300, -1));
        Checks.refused(1, h, () -> h.find(100, 301, 0));
        Checks.refused(1, h, () -> h.find(100, 200, 0));
        Checks.due(300, () -> h.origin(401));
        for (int number = 2; number < 30; number++) {
            int due = 400 + number;
            Checks.due(due, () -> h.find(100, 300, 7));
        }
        Checks.refused(3, h, () -> h.find(100, 300, 0));
        Checks.refused(3, h, () -> h.find(100, 300, 51));
    }

    private static void objects() {
        MuseumHouse h = furnished();
        Checks.due(0, () -> h.where(500, 9));
        Checks.due(1, () -> h.where(500, 10));
        Checks.due(1, () -> h.where(501, 0));
        Checks.refused(9, h, () -> h.object(100, 400));
        Checks.refused(9, h, () -> h.object(100, 401));
        Checks.refused(1, h, () -> h.object(100, 402));
        Checks.refused(1, h, () -> h.object(100, 500));
        for (int number = 2; number < 30; number++) {
            h.find(100, 300, number);
        }
        for (int number = 2; number < 30; number++) {
            int due = 500 + number;
            int find = 431 - number;
            Checks.due(due, () -> h.object(100, find));
            Checks.due(find, () -> h.origin(due));
        }
        // All thirty finds are objects: there is no room, which is asked ahead of rule 9.
        Checks.refused(3, h, () -> h.object(100, 400));
        Checks.due(0, () -> h.where(502, 28));
        Checks.due(1, () -> h.where(502, 29));
    }

    private static void stores() {
        MuseumHouse h = new MuseumHouse();
        Checks.refused(1, h, () -> h.store(100, 600));
        Checks.due(600, () -> h.store(100, 0));
        Checks.due(601, () -> h.store(100, 600));
        Checks.due(true, () -> h.within(601, 600));
        Checks.refused(1, h, () -> h.store(100, 602));
        Checks.refused(1, h, () -> h.store(100, 1));
        Checks.refused(1, h, () -> h.store(100, -1));
        Checks.refused(1, h, () -> h.store(0, 0));
        for (int number = 2; number < 16; number++) {
            int due = 600 + number;
            Checks.due(due, () -> h.store(100, due - 1));
        }
        Checks.due(true, () -> h.within(615, 600));
        Checks.refused(10, h, () -> h.carry(100, 600, 615));
        Checks.refused(3, h, () -> h.store(100, 0));
        Checks.refused(1, h, () -> h.store(100, 616));
    }

    private static void carry() {
        MuseumHouse h = furnished();
        Checks.due(true, () -> h.carry(100, 602, 603));
        Checks.due(false, () -> h.carry(100, 602, 603));
        Checks.due(false, () -> h.within(602, 600));
        Checks.due(true, () -> h.within(602, 603));
        Checks.due(false, () -> h.carry(100, 600, 0));
        Checks.due(true, () -> h.carry(100, 602, 0));
        Checks.due(false, () -> h.within(602, 603));
        Checks.due(true, () -> h.carry(100, 602, 601));
        Checks.refused(10, h, () -> h.carry(100, 600, 602));
        Checks.refused(10, h, () -> h.carry(100, 600, 601));
        Checks.refused(10, h, () -> h.carry(100, 600, 600));
        Checks.refused(1, h, () -> h.carry(100, 600, 604));
        Checks.refused(1, h, () -> h.carry(100, 604, 600));
        Checks.refused(1, h, () -> h.carry(100, 0, 600));
        Checks.refused(1, h, () -> h.carry(600, 600, 600));
        // With all that is in it, a store comes into another one.
        Checks.due(true, () -> h.carry(100, 601, 603));
        Checks.due(true, () -> h.within(602, 603));
        Checks.due(true, () -> h.carry(100, 600, 602));
    }

    private static void within() {
        MuseumHouse h = furnished();
        Checks.due(true, () -> h.within(601, 600));
        Checks.due(true, () -> h.within(602, 600));
        Checks.due(false, () -> h.within(600, 602));
        Checks.due(false, () -> h.within(600, 600));
        Checks.due(false, () -> h.within(602, 603));
        Checks.refused(1, h, () -> h.within(600, 604));
        Checks.refused(1, h, () -> h.within(604, 600));
        for (int handle : WRONG_HANDLES) {
            Checks.refused(1, h, () -> h.within(600, handle));
            Checks.refused(1, h, () -> h.within(handle, 600));
        }
    }

    private static void move() {
        MuseumHouse h = furnished();
        Checks.refused(11, h, () -> h.move(100, 500, 600, 9));
        Checks.due(true, () -> h.move(100, 500, 600, 10));
        Checks.due(true, () -> h.move(100, 500, 601, 100));
        Checks.due(false, () -> h.move(100, 500, 602, 100));
        Checks.refused(4, h, () -> h.move(100, 500, 600, 101));
        Checks.refused(4, h, () -> h.move(100, 500, 600, -1));
        Checks.refused(1, h, () -> h.move(100, 502, 600, 50));
        Checks.refused(1, h, () -> h.move(100, 500, 604, 50));
        Checks.refused(1, h, () -> h.move(100, 500, 0, 50));
        Checks.due(602, () -> h.place(500, 100));
        h.loan(100, 500, 40, 50);
        Checks.due(true, () -> h.move(100, 500, 601, 39));
        Checks.refused(12, h, () -> h.move(100, 500, 601, 40));
        Checks.refused(12, h, () -> h.move(100, 500, 601, 50));
        Checks.due(true, () -> h.move(100, 500, 601, 51));
        Checks.due(true, () -> h.move(100, 501, 601, 45));
        h.back(100, 700, 45);
        Checks.refused(12, h, () -> h.move(100, 500, 601, 45));
        Checks.due(true, () -> h.move(100, 500, 603, 46));
        // A show does not keep an object from being moved, nor does a claim.
        h.show(100, 600, 60, 70);
        h.hang(100, 800, 500);
        h.claim(100, 500, 0);
        Checks.due(true, () -> h.move(100, 500, 603, 65));
    }

    private static void moveOnDayZero() {
        MuseumHouse h = furnished();
        Checks.due(true, () -> h.move(100, 501, 602, 0));
        Checks.due(false, () -> h.move(100, 501, 601, 0));
        Checks.due(601, () -> h.place(501, 0));
        Checks.due(601, () -> h.where(501, 0));
        Checks.due(1, () -> h.stored(600, 0));
    }

    private static void moveRoom() {
        MuseumHouse h = furnished();
        for (int day = 20; day < 32; day++) {
            int told = day;
            Checks.due(true, () -> h.move(100, 500, 600, told));
        }
        Checks.refused(3, h, () -> h.move(100, 500, 600, 32));
        Checks.refused(3, h, () -> h.move(100, 500, 600, 9));
        Checks.refused(3, h, () -> h.move(100, 500, 600, 101));
        Checks.due(false, () -> h.move(100, 500, 601, 25));
        Checks.due(601, () -> h.place(500, 25));
        Checks.due(600, () -> h.place(500, 26));
        Checks.due(true, () -> h.move(100, 501, 600, 32));
    }

    private static void place() {
        MuseumHouse h = furnished();
        Checks.due(0, () -> h.place(500, 9999));
        h.move(100, 500, 601, 20);
        h.move(100, 500, 602, 15);
        Checks.due(0, () -> h.place(500, 0));
        Checks.due(0, () -> h.place(500, 14));
        Checks.due(602, () -> h.place(500, 15));
        Checks.due(602, () -> h.place(500, 19));
        Checks.due(601, () -> h.place(500, 20));
        Checks.due(601, () -> h.place(500, 9999));
        Checks.due(0, () -> h.place(501, 50));
        h.move(100, 500, 600, 20);
        Checks.due(600, () -> h.place(500, 20));
        Checks.due(602, () -> h.place(500, 19));
        h.loan(100, 500, 30, 40);
        Checks.due(600, () -> h.place(500, 35));
        Checks.refused(4, h, () -> h.place(500, -1));
        Checks.refused(4, h, () -> h.place(500, 10000));
        Checks.refused(1, h, () -> h.place(502, 10000));
        for (int handle : WRONG_HANDLES) {
            Checks.refused(1, h, () -> h.place(handle, 0));
        }
    }

    private static void stored() {
        MuseumHouse h = furnished();
        Checks.due(0, () -> h.stored(600, 100));
        h.move(100, 500, 602, 20);
        h.move(100, 501, 600, 30);
        Checks.due(0, () -> h.stored(600, 19));
        Checks.due(1, () -> h.stored(600, 20));
        Checks.due(2, () -> h.stored(600, 30));
        Checks.due(1, () -> h.stored(601, 30));
        Checks.due(1, () -> h.stored(602, 9999));
        Checks.due(0, () -> h.stored(603, 30));
        h.carry(100, 601, 603);
        Checks.due(1, () -> h.stored(603, 30));
        Checks.due(1, () -> h.stored(600, 30));
        // A place stays a place while a loan has the object.
        h.loan(100, 501, 30, 40);
        Checks.due(1, () -> h.stored(600, 30));
        Checks.refused(4, h, () -> h.stored(600, -1));
        Checks.refused(4, h, () -> h.stored(600, 10000));
        Checks.refused(1, h, () -> h.stored(604, 10000));
        for (int handle : WRONG_HANDLES) {
            Checks.refused(1, h, () -> h.stored(handle, 0));
        }
    }

    private static void loan() {
        MuseumHouse h = furnished();
        Checks.refused(11, h, () -> h.loan(100, 500, 9, 20));
        Checks.due(700, () -> h.loan(100, 500, 10, 20));
        Checks.refused(14, h, () -> h.loan(100, 500, 20, 30));
        Checks.refused(14, h, () -> h.loan(100, 500, 10, 10));
        Checks.refused(14, h, () -> h.loan(100, 500, 12, 13));
        Checks.due(701, () -> h.loan(100, 500, 21, 21));
        Checks.due(702, () -> h.loan(100, 500, 9999, 9999));
        Checks.due(703, () -> h.loan(100, 501, 0, 9999));
        Checks.refused(4, h, () -> h.loan(100, 500, 31, 30));
        Checks.refused(4, h, () -> h.loan(100, 500, -1, 30));
        Checks.refused(4, h, () -> h.loan(100, 500, 30, 10000));
        Checks.refused(1, h, () -> h.loan(100, 502, 31, 30));
        Checks.refused(1, h, () -> h.loan(101, 500, 31, 30));
        h.show(100, 600, 40, 50);
        h.hang(100, 800, 500);
        Checks.refused(14, h, () -> h.loan(100, 500, 30, 40));
        Checks.refused(14, h, () -> h.loan(100, 500, 50, 60));
        Checks.refused(14, h, () -> h.loan(100, 500, 30, 60));
        Checks.due(704, () -> h.loan(100, 500, 30, 39));
        Checks.due(705, () -> h.loan(100, 500, 51, 60));
        h.claim(100, 500, 4);
        Checks.refused(13, h, () -> h.loan(100, 500, 70, 71));
        Checks.refused(13, h, () -> h.loan(100, 500, 10, 20));
        Checks.refused(11, h, () -> h.loan(100, 500, 9, 20));
        h.close(100, 900);
        Checks.due(706, () -> h.loan(100, 500, 70, 71));
    }

    private static void loanRoom() {
        MuseumHouse h = furnished();
        for (int number = 0; number < 40; number++) {
            int due = 700 + number;
            Checks.due(due, () -> h.loan(100, 501, due, due));
        }
        Checks.refused(3, h, () -> h.loan(100, 501, 0, 0));
        Checks.refused(3, h, () -> h.loan(100, 501, 5, 4));
        Checks.due(40, () -> h.count(7));
        Checks.due(739, () -> h.where(501, 739));
        Checks.due(739, () -> h.back(100, 739, 739));
    }

    private static void back() {
        MuseumHouse h = furnished();
        h.loan(100, 500, 30, 40);
        Checks.refused(15, h, () -> h.back(100, 700, 29));
        Checks.refused(15, h, () -> h.back(100, 700, 41));
        Checks.refused(4, h, () -> h.back(100, 700, -1));
        Checks.refused(4, h, () -> h.back(100, 700, 10000));
        Checks.refused(1, h, () -> h.back(100, 701, 35));
        Checks.due(40, () -> h.back(100, 700, 40));
        Checks.due(40, () -> h.back(100, 700, 33));
        Checks.refused(15, h, () -> h.back(100, 700, 34));
        Checks.due(700, () -> h.where(500, 33));
        Checks.due(1, () -> h.where(500, 34));
        Checks.due(701, () -> h.loan(100, 500, 34, 40));
        Checks.due(33, () -> h.back(100, 700, 30));
        Checks.due(30, () -> h.back(100, 700, 30));
        Checks.due(700, () -> h.where(500, 30));
        Checks.due(1, () -> h.where(500, 31));
        // The days of a loan may be behind today.
        h.loan(100, 500, 5000, 6000);
        Checks.due(6000, () -> h.back(100, 702, 5500));
    }

    private static void show() {
        MuseumHouse h = furnished();
        Checks.due(800, () -> h.show(100, 600, 0, 9999));
        Checks.due(801, () -> h.show(100, 600, 5, 5));
        Checks.refused(4, h, () -> h.show(100, 600, 6, 5));
        Checks.refused(4, h, () -> h.show(100, 600, -1, 5));
        Checks.refused(4, h, () -> h.show(100, 600, 5, 10000));
        Checks.refused(1, h, () -> h.show(100, 604, 5, 6));
        Checks.refused(1, h, () -> h.show(100, 0, 5, 6));
        for (int number = 2; number < 10; number++) {
            int due = 800 + number;
            Checks.due(due, () -> h.show(100, 603, due, due));
        }
        Checks.refused(3, h, () -> h.show(100, 600, 5, 6));
        Checks.refused(3, h, () -> h.show(100, 600, 6, 5));
    }

    private static void hang() {
        MuseumHouse h = furnished();
        h.show(100, 600, 9, 20);
        h.show(100, 601, 20, 30);
        h.show(100, 602, 21, 40);
        Checks.refused(11, h, () -> h.hang(100, 800, 500));
        Checks.due(true, () -> h.hang(100, 800, 501));
        Checks.due(false, () -> h.hang(100, 800, 501));
        Checks.refused(14, h, () -> h.hang(100, 801, 501));
        Checks.due(true, () -> h.hang(100, 802, 501));
        Checks.due(true, () -> h.hang(100, 801, 500));
        Checks.due(800, () -> h.where(501, 20));
        Checks.due(802, () -> h.where(501, 21));
        Checks.refused(1, h, () -> h.hang(100, 803, 500));
        Checks.refused(1, h, () -> h.hang(100, 800, 502));
        Checks.refused(1, h, () -> h.hang(100, 500, 800));
        h.take(100, 802, 501);
        h.loan(100, 501, 40, 50);
        Checks.refused(14, h, () -> h.hang(100, 802, 501));
        h.claim(100, 501, 1);
        Checks.refused(13, h, () -> h.hang(100, 802, 501));
        h.claim(100, 500, 1);
        Checks.refused(11, h, () -> h.hang(100, 800, 500));
        // In it already: no rule is asked but 1 and 2.
        Checks.due(false, () -> h.hang(100, 800, 501));
        h.desk(100, 47);
        Checks.refused(2, h, () -> h.hang(101, 800, 501));
        Checks.refused(1, h, () -> h.hang(102, 800, 501));
    }

    private static void take() {
        MuseumHouse h = furnished();
        h.show(100, 600, 20, 30);
        Checks.due(false, () -> h.take(100, 800, 500));
        h.hang(100, 800, 500);
        h.hang(100, 800, 501);
        Checks.due(true, () -> h.take(100, 800, 500));
        Checks.due(false, () -> h.take(100, 800, 500));
        Checks.due(1, () -> h.where(500, 25));
        Checks.due(800, () -> h.where(501, 25));
        Checks.due(700, () -> h.loan(100, 500, 20, 30));
        h.claim(100, 501, 1);
        Checks.due(true, () -> h.take(100, 800, 501));
        Checks.refused(1, h, () -> h.take(100, 801, 500));
        Checks.refused(1, h, () -> h.take(100, 800, 502));
        Checks.refused(1, h, () -> h.take(101, 800, 500));
    }

    private static void claim() {
        MuseumHouse h = furnished();
        Checks.due(900, () -> h.claim(100, 500, 0));
        Checks.due(901, () -> h.claim(100, 500, 9));
        Checks.due(902, () -> h.claim(100, 501, 0));
        Checks.refused(16, h, () -> h.claim(100, 500, 0));
        Checks.refused(16, h, () -> h.claim(100, 500, 9));
        Checks.refused(4, h, () -> h.claim(100, 500, -1));
        Checks.refused(4, h, () -> h.claim(100, 500, 10));
        Checks.refused(1, h, () -> h.claim(100, 502, 10));
        h.close(100, 900);
        Checks.due(903, () -> h.claim(100, 500, 0));
        for (int number = 4; number < 20; number++) {
            int due = 900 + number;
            Checks.due(due, () -> h.claim(100, 501, 5));
            h.close(100, due);
        }
        Checks.refused(3, h, () -> h.claim(100, 501, 5));
        Checks.refused(3, h, () -> h.claim(100, 501, 10));
    }

    private static void close() {
        MuseumHouse h = furnished();
        h.claim(100, 500, 0);
        h.claim(100, 501, 0);
        h.claim(100, 500, 1);
        h.claim(100, 500, 2);
        Checks.due(2, () -> h.close(100, 902));
        Checks.refused(17, h, () -> h.close(100, 902));
        Checks.due(1, () -> h.close(100, 900));
        Checks.refused(13, h, () -> h.loan(100, 500, 20, 30));
        Checks.due(0, () -> h.close(100, 903));
        Checks.due(700, () -> h.loan(100, 500, 20, 30));
        Checks.refused(13, h, () -> h.loan(100, 501, 20, 30));
        Checks.refused(1, h, () -> h.close(100, 904));
        Checks.refused(1, h, () -> h.close(100, 800));
        Checks.due(4, () -> h.count(9));
    }

    private static void where() {
        MuseumHouse h = furnished();
        Checks.due(0, () -> h.where(500, 0));
        Checks.due(0, () -> h.where(500, 9));
        Checks.due(1, () -> h.where(500, 10));
        Checks.due(1, () -> h.where(500, 9999));
        h.move(100, 500, 602, 12);
        h.loan(100, 500, 20, 30);
        h.show(100, 600, 40, 50);
        h.hang(100, 800, 500);
        Checks.due(1, () -> h.where(500, 11));
        Checks.due(602, () -> h.where(500, 12));
        Checks.due(602, () -> h.where(500, 19));
        Checks.due(700, () -> h.where(500, 20));
        Checks.due(700, () -> h.where(500, 30));
        Checks.due(602, () -> h.where(500, 31));
        Checks.due(800, () -> h.where(500, 40));
        Checks.due(800, () -> h.where(500, 50));
        Checks.due(602, () -> h.where(500, 51));
        Checks.due(1, () -> h.where(501, 45));
        Checks.refused(4, h, () -> h.where(500, -1));
        Checks.refused(4, h, () -> h.where(500, 10000));
        Checks.refused(1, h, () -> h.where(502, -1));
        for (int handle : WRONG_HANDLES) {
            Checks.refused(1, h, () -> h.where(handle, 0));
        }
    }

    private static void origin() {
        MuseumHouse h = furnished();
        h.site(100);
        h.context(100, 201);
        h.find(100, 301, 3);
        h.object(100, 402);
        h.loan(100, 500, 20, 30);
        h.show(100, 600, 40, 50);
        h.claim(100, 500, 1);
        Checks.due(200, () -> h.origin(300));
        Checks.due(201, () -> h.origin(301));
        Checks.due(300, () -> h.origin(401));
        Checks.due(301, () -> h.origin(402));
        Checks.due(400, () -> h.origin(500));
        Checks.due(402, () -> h.origin(502));
        for (int handle : new int[] {100, 200, 600, 700, 800, 900, 302, 403, 503, 1000, 399}) {
            Checks.refused(1, h, () -> h.origin(handle));
        }
        for (int handle : WRONG_HANDLES) {
            Checks.refused(1, h, () -> h.origin(handle));
        }
    }

    private static void hall() {
        MuseumHouse h = furnished();
        h.show(100, 602, 40, 50);
        h.show(100, 600, 40, 50);
        Checks.due(602, () -> h.hall(800));
        Checks.due(600, () -> h.hall(801));
        h.carry(100, 602, 603);
        Checks.due(602, () -> h.hall(800));
        Checks.refused(1, h, () -> h.hall(802));
        Checks.refused(1, h, () -> h.hall(600));
        for (int handle : WRONG_HANDLES) {
            Checks.refused(1, h, () -> h.hall(handle));
        }
    }

    private static void rule() {
        MuseumHouse h = new MuseumHouse();
        Checks.due(0, () -> h.rule());
        h.site(100);
        Checks.due(0, () -> h.rule());
        Checks.refused(4, h, () -> h.day(-1));
        Checks.due(4, () -> h.rule());
        h.context(100, 200);
        h.day(5);
        Checks.due(4, () -> h.rule());
        Checks.refused(1, h, () -> h.hall(800));
        Checks.due(1, () -> h.rule());
        MuseumHouse other = new MuseumHouse();
        Checks.due(0, () -> other.rule());
    }

    private static void count() {
        MuseumHouse h = furnished();
        int[] due = {1, 1, 1, 2, 2, 4, 0, 0, 0};
        for (int kind = 1; kind <= 9; kind++) {
            int asked = kind;
            Checks.due(due[kind - 1], () -> h.count(asked));
        }
        String none = NoSuchElementException.class.getName();
        for (int kind : new int[] {0, -1, 10, 100, Integer.MAX_VALUE, Integer.MIN_VALUE}) {
            Checks.equal(none, Checks.told(() -> h.count(kind)));
            Checks.due(0, () -> h.rule());
        }
        Checks.refused(4, h, () -> h.day(-1));
        Checks.equal(none, Checks.told(() -> h.count(10)));
        Checks.due(4, () -> h.rule());
    }

    /** With as many of each kind as there may be, the last ones answer like the first. */
    private static void fullHouse() {
        MuseumHouse h = new MuseumHouse();
        h.site(100);
        h.day(50);
        for (int number = 0; number < 20; number++) {
            h.context(100, 200);
        }
        for (int number = 0; number < 30; number++) {
            h.find(100, 319, 0);
            h.object(100, 400 + number);
        }
        for (int number = 0; number < 16; number++) {
            h.store(100, 0);
        }
        for (int number = 0; number < 12; number++) {
            h.move(100, 529, 604 + number, number);
        }
        for (int number = 0; number < 10; number++) {
            h.show(100, 615, 20 + number, 20 + number);
            h.hang(100, 800 + number, 529);
        }
        for (int number = 0; number < 39; number++) {
            h.loan(100, 500, number, number);
        }
        h.loan(100, 529, 40, 45);
        for (int number = 0; number < 20; number++) {
            h.claim(100, 510 + number, 0);
        }
        Checks.due(false, () -> h.move(100, 529, 600, 11));
        Checks.refused(3, h, () -> h.move(100, 529, 600, 12));
        Checks.refused(12, h, () -> h.move(100, 500, 600, 38));
        Checks.due(true, () -> h.move(100, 500, 615, 39));
        Checks.due(1, () -> h.stored(615, 40));
        Checks.due(1, () -> h.stored(600, 40));
        Checks.due(604, () -> h.where(529, 0));
        Checks.due(614, () -> h.where(529, 10));
        Checks.due(600, () -> h.where(529, 11));
        Checks.due(809, () -> h.where(529, 29));
        Checks.due(739, () -> h.where(529, 45));
        Checks.due(600, () -> h.where(529, 46));
        Checks.due(1, () -> h.where(528, 29));
        Checks.refused(13, h, () -> h.hang(100, 809, 528));
        Checks.due(0, () -> h.close(100, 918));
        Checks.due(true, () -> h.hang(100, 809, 528));
        Checks.due(809, () -> h.where(528, 29));
        Checks.due(true, () -> h.take(100, 809, 529));
        Checks.due(true, () -> h.above(100, 319, 318));
        Checks.due(7, () -> h.span(100, 318, 7, 9));
        Checks.due(7, () -> h.year(319, 0));
        Checks.due(319, () -> h.origin(429));
        Checks.due(429, () -> h.origin(529));
        Checks.due(615, () -> h.hall(809));
        Checks.due(45, () -> h.back(100, 739, 40));
    }
}
