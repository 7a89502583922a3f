import java.util.function.Consumer;
import java.util.function.IntSupplier;
import java.util.function.Supplier;

/**
 * Each rule at each call that it can refuse: the exception that is due, what rule() tells then, the
 * order in which rules are asked, and that a twin house without the refused call answers the same.
 */
public final class RuleTest {
    private static final int[] DAYS = {0, 9, 10, 25, 35, 45, 55, 9999};

    public static void main(String[] args) {
        noSuchHandle();
        noRight();
        noRoom();
        outOfBounds();
        rulesOfDesksAndDigs();
        rulesOfObjects();
        rulesOfLoansAndShows();
        rulesOfClaims();
        earlierRulesFirst();
        Checks.end();
    }

    /**
     * Desk 101 without rights and 102 with right 1; contexts 300 over 301 over 302 of site 200, 303
     * of site 201; object 500 of day 10 with places, a loan, a show and an open claim; 501 of day 0
     * with a loan alone; 502 with nothing; find 403 is no object.
     */
    private static MuseumHouse house() {
        MuseumHouse h = new MuseumHouse();
        h.desk(100, 0);
        h.desk(100, 1);
        h.site(100);
        h.site(100);
        h.context(100, 200);
        h.context(100, 200);
        h.context(100, 200);
        h.context(100, 201);
        h.above(100, 300, 301);
        h.above(100, 301, 302);
        h.span(100, 302, 500, 600);
        h.day(100);
        h.find(100, 300, 10);
        h.find(100, 301, 0);
        h.find(100, 303, 20);
        h.find(100, 303, 30);
        h.object(100, 400);
        h.object(100, 401);
        h.object(100, 402);
        h.store(100, 0);
        h.store(100, 600);
        h.store(100, 601);
        h.move(100, 500, 602, 10);
        h.move(100, 500, 600, 50);
        h.loan(100, 500, 30, 40);
        h.loan(100, 501, 50, 60);
        h.show(100, 600, 20, 25);
        h.show(100, 601, 5, 40);
        h.show(100, 601, 60, 70);
        h.hang(100, 800, 500);
        h.claim(100, 500, 3);
        h.claim(100, 501, 4);
        h.close(100, 901);
        return h;
    }

    /** As many of each kind as there may be, but desk 105 without rights. */
    private static MuseumHouse fullHouse() {
        MuseumHouse h = new MuseumHouse();
        h.day(100);
        times(4, n -> h.desk(100, 63));
        h.desk(100, 0);
        times(4, n -> h.site(100));
        times(20, n -> h.context(100, 200));
        times(30, n -> h.find(100, 300, 10));
        times(30, n -> h.object(100, 400 + n));
        times(16, n -> h.store(100, 0));
        times(12, n -> h.move(100, 500, 600, 10 + n));
        times(40, n -> h.loan(100, 500, 100 + n, 100 + n));
        times(10, n -> h.show(100, 600, 20, 30));
        times(10, n -> h.claim(100, 501, n));
        times(10, n -> h.claim(100, 502, n));
        return h;
    }

    private static void times(int count, Consumer<Integer> call) {
        for (int n = 0; n < count; n++) {
            call.accept(n);
        }
    }

    private static void refuses(int rule, Consumer<MuseumHouse> call) {
        refusesIn(RuleTest::house, rule, call);
    }

    private static void refusesIn(Supplier<MuseumHouse> of, int rule, Consumer<MuseumHouse> call) {
        MuseumHouse house = of.get();
        MuseumHouse twin = of.get();
        Checks.refused(rule, house, () -> call.accept(house));
        Checks.equal(seen(twin), seen(house));
    }

    /** What can be seen of a house, and at the end what only calls that change it can tell. */
    private static String seen(MuseumHouse h) {
        StringBuilder text = new StringBuilder();
        for (int kind = 1; kind <= 9; kind++) {
            int asked = kind;
            note(text, () -> h.count(asked));
        }
        note(text, () -> h.day(0));
        times(4, a -> {
            times(4, b -> note(text, () -> h.isAbove(300 + a, 300 + b) ? 1 : 0));
            times(2, end -> note(text, () -> h.year(300 + a, end)));
            note(text, () -> h.origin(300 + a));
            note(text, () -> h.origin(400 + a));
            note(text, () -> h.origin(500 + a));
            note(text, () -> h.hall(800 + a));
            times(3, b -> note(text, () -> h.within(600 + a, 600 + b) ? 1 : 0));
        });
        for (int day : DAYS) {
            times(3, n -> {
                note(text, () -> h.where(500 + n, day));
                note(text, () -> h.place(500 + n, day));
                note(text, () -> h.stored(600 + n, day));
            });
        }
        times(3, n -> {
            note(text, () -> h.desk(100 + n, 63));
            note(text, () -> h.close(100, 900 + n));
            note(text, () -> h.back(100, 700 + n, n == 0 ? 30 : 50));
            times(2, show -> note(text, () -> h.take(100, 800 + show, 500 + n) ? 1 : 0));
        });
        return text.toString();
    }

    private static void note(StringBuilder text, IntSupplier call) {
        text.append(Checks.told(call)).append(' ');
    }

    private static void noSuchHandle() {
        for (int none : new int[] {0, 109, 400, -100, Integer.MIN_VALUE, Integer.MAX_VALUE}) {
            refuses(1, h -> h.desk(none, 0));
            refuses(1, h -> h.site(none));
            refuses(1, h -> h.context(none, 200));
            refuses(1, h -> h.above(none, 303, 303));
            refuses(1, h -> h.span(none, 303, 1, 2));
            refuses(1, h -> h.find(none, 300, 1));
            refuses(1, h -> h.object(none, 403));
            refuses(1, h -> h.store(none, 0));
            refuses(1, h -> h.carry(none, 602, 0));
            refuses(1, h -> h.move(none, 502, 600, 50));
            refuses(1, h -> h.loan(none, 502, 50, 60));
            refuses(1, h -> h.back(none, 700, 35));
            refuses(1, h -> h.show(none, 600, 50, 60));
            refuses(1, h -> h.hang(none, 802, 502));
            refuses(1, h -> h.take(none, 800, 500));
            refuses(1, h -> h.claim(none, 502, 1));
            refuses(1, h -> h.close(none, 900));
        }
        for (int none : new int[] {299, 100, -300, 330, Integer.MIN_VALUE, Integer.MAX_VALUE}) {
            refuses(1, h -> h.context(100, none));
            refuses(1, h -> h.above(100, none, 301));
            refuses(1, h -> h.above(100, 301, none));
            refuses(1, h -> h.span(100, none, 1, 2));
            refuses(1, h -> h.isAbove(none, 300));
            refuses(1, h -> h.isAbove(300, none));
            refuses(1, h -> h.year(none, 0));
            refuses(1, h -> h.find(100, none, 1));
            refuses(1, h -> h.object(100, none));
            refuses(1, h -> h.store(100, none));
            refuses(1, h -> h.carry(100, none, 0));
            refuses(1, h -> h.carry(100, 602, none));
            refuses(1, h -> h.within(none, 600));
            refuses(1, h -> h.within(600, none));
            refuses(1, h -> h.move(100, none, 600, 50));
            refuses(1, h -> h.move(100, 502, none, 50));
            refuses(1, h -> h.place(none, 50));
            refuses(1, h -> h.stored(none, 50));
            refuses(1, h -> h.loan(100, none, 50, 60));
            refuses(1, h -> h.back(100, none, 35));
            refuses(1, h -> h.show(100, none, 50, 60));
            refuses(1, h -> h.hang(100, none, 502));
            refuses(1, h -> h.hang(100, 802, none));
            refuses(1, h -> h.take(100, none, 500));
            refuses(1, h -> h.take(100, 800, none));
            refuses(1, h -> h.claim(100, none, 1));
            refuses(1, h -> h.close(100, none));
            refuses(1, h -> h.where(none, 50));
            refuses(1, h -> h.origin(none));
            refuses(1, h -> h.hall(none));
        }
    }

    private static void noRight() {
        refuses(2, h -> h.desk(101, 0));
        refuses(2, h -> h.site(102));
        refuses(2, h -> h.context(102, 200));
        refuses(2, h -> h.above(102, 300, 301));
        refuses(2, h -> h.span(102, 303, 1, 2));
        refuses(2, h -> h.find(102, 300, 1));
        refuses(2, h -> h.object(102, 403));
        refuses(2, h -> h.store(102, 0));
        refuses(2, h -> h.carry(102, 602, 0));
        refuses(2, h -> h.move(102, 502, 600, 50));
        refuses(2, h -> h.loan(102, 502, 50, 60));
        refuses(2, h -> h.back(102, 700, 35));
        refuses(2, h -> h.show(102, 600, 50, 60));
        refuses(2, h -> h.hang(102, 800, 500));
        refuses(2, h -> h.hang(102, 802, 502));
        refuses(2, h -> h.take(102, 800, 500));
        refuses(2, h -> h.claim(102, 502, 1));
        refuses(2, h -> h.close(102, 900));
    }

    private static void noRoom() {
        refusesIn(RuleTest::fullHouse, 3, h -> h.desk(100, 0));
        refusesIn(RuleTest::fullHouse, 3, h -> h.site(100));
        refusesIn(RuleTest::fullHouse, 3, h -> h.context(100, 200));
        refusesIn(RuleTest::fullHouse, 3, h -> h.find(100, 300, 1));
        refusesIn(RuleTest::fullHouse, 3, h -> h.object(100, 400));
        refusesIn(RuleTest::fullHouse, 3, h -> h.store(100, 0));
        refusesIn(RuleTest::fullHouse, 3, h -> h.move(100, 500, 600, 50));
        refusesIn(RuleTest::fullHouse, 3, h -> h.loan(100, 503, 50, 60));
        refusesIn(RuleTest::fullHouse, 3, h -> h.show(100, 600, 50, 60));
        refusesIn(RuleTest::fullHouse, 3, h -> h.claim(100, 503, 1));
    }

    private static void outOfBounds() {
        for (int far : new int[] {-1, 10000, Integer.MIN_VALUE, Integer.MAX_VALUE}) {
            refuses(4, h -> h.desk(100, far));
            refuses(4, h -> h.day(far));
            refuses(4, h -> h.span(100, 303, far, 999));
            refuses(4, h -> h.span(100, 303, 0, far));
            refuses(4, h -> h.year(300, far));
            refuses(4, h -> h.find(100, 300, far));
            refuses(4, h -> h.move(100, 502, 600, far));
            refuses(4, h -> h.place(500, far));
            refuses(4, h -> h.stored(600, far));
            refuses(4, h -> h.loan(100, 502, far, 9999));
            refuses(4, h -> h.loan(100, 502, 80, far));
            refuses(4, h -> h.back(100, 700, far));
            refuses(4, h -> h.show(100, 600, far, 9999));
            refuses(4, h -> h.show(100, 600, 0, far));
            refuses(4, h -> h.claim(100, 502, far));
            refuses(4, h -> h.where(500, far));
        }
        refuses(4, h -> h.desk(100, 64));
        refuses(4, h -> h.day(1001));
        refuses(4, h -> h.span(100, 303, 0, 1000));
        refuses(4, h -> h.span(100, 303, 2, 1));
        refuses(4, h -> h.year(300, 2));
        refuses(4, h -> h.find(100, 300, 101));
        refuses(4, h -> h.move(100, 502, 600, 101));
        refuses(4, h -> h.loan(100, 502, 81, 80));
        refuses(4, h -> h.show(100, 600, 81, 80));
        refuses(4, h -> h.claim(100, 502, 10));
    }

    private static void rulesOfDesksAndDigs() {
        refuses(5, h -> h.desk(102, 2));
        refuses(5, h -> h.desk(102, 63));
        refuses(6, h -> h.above(100, 300, 303));
        refuses(6, h -> h.above(100, 303, 300));
        refuses(7, h -> h.above(100, 303, 303));
        refuses(7, h -> h.above(100, 301, 300));
        refuses(7, h -> h.above(100, 302, 300));
        refuses(8, h -> h.span(100, 300, 0, 499));
        refuses(8, h -> h.span(100, 301, 0, 499));
        refusesIn(RuleTest::twoOddLayers, 8, h -> h.above(100, 300, 304));
        refusesIn(RuleTest::twoOddLayers, 8, h -> h.above(100, 305, 302));
    }

    /** Beside the house's contexts: 304 all behind them, 305 all ahead of 302. */
    private static MuseumHouse twoOddLayers() {
        MuseumHouse h = house();
        h.span(100, 300, 0, 700);
        h.context(100, 200);
        h.context(100, 200);
        h.span(100, 304, 701, 800);
        h.span(100, 305, 0, 499);
        return h;
    }

    private static void rulesOfObjects() {
        refuses(9, h -> h.object(100, 400));
        refuses(10, h -> h.carry(100, 600, 600));
        refuses(10, h -> h.carry(100, 600, 601));
        refuses(10, h -> h.carry(100, 600, 602));
        refuses(11, h -> h.move(100, 500, 600, 9));
        refuses(12, h -> h.move(100, 500, 600, 30));
        refuses(12, h -> h.move(100, 500, 600, 40));
    }

    private static void rulesOfLoansAndShows() {
        refuses(11, h -> h.loan(100, 502, 19, 40));
        refuses(11, h -> h.hang(100, 801, 502));
        refuses(13, h -> h.loan(100, 500, 80, 90));
        refuses(13, h -> h.hang(100, 802, 500));
        refuses(14, h -> h.loan(100, 501, 60, 70));
        refuses(14, h -> h.loan(100, 501, 40, 50));
        refuses(14, h -> h.hang(100, 802, 501));
        refuses(15, h -> h.back(100, 700, 29));
        refuses(15, h -> h.back(100, 700, 41));
    }

    private static void rulesOfClaims() {
        refuses(16, h -> h.claim(100, 500, 3));
        refuses(17, h -> h.close(100, 901));
    }

    private static void earlierRulesFirst() {
        refusesIn(RuleTest::fullHouse, 1, h -> h.desk(106, 64));
        refusesIn(RuleTest::fullHouse, 2, h -> h.desk(105, 64));
        refusesIn(RuleTest::fullHouse, 3, h -> h.desk(100, 64));
        refuses(4, h -> h.desk(102, 66));
        refusesIn(RuleTest::fullHouse, 2, h -> h.move(105, 500, 600, -1));
        refusesIn(RuleTest::fullHouse, 3, h -> h.move(100, 500, 600, -1));
        refusesIn(RuleTest::fullHouse, 3, h -> h.move(100, 500, 600, 9));
        refusesIn(RuleTest::fullHouse, 3, h -> h.loan(100, 501, 5, 4));
        refusesIn(RuleTest::fullHouse, 3, h -> h.show(100, 600, 5, 4));
        refusesIn(RuleTest::fullHouse, 3, h -> h.claim(100, 501, 10));
        refusesIn(RuleTest::fullHouse, 3, h -> h.claim(100, 501, 1));
        refusesIn(RuleTest::fullHouse, 3, h -> h.find(100, 300, 101));
        refuses(1, h -> h.above(102, 300, 309));
        refuses(2, h -> h.above(102, 303, 300));
        refuses(2, h -> h.span(102, 300, 5, 4));
        refuses(4, h -> h.span(100, 300, 5, 4));
        refuses(2, h -> h.object(102, 400));
        refuses(2, h -> h.carry(102, 600, 600));
        refuses(11, h -> h.loan(100, 500, 9, 35));
        refuses(13, h -> h.loan(100, 500, 30, 40));
        refuses(11, h -> h.hang(100, 801, 500));
        refuses(2, h -> h.back(102, 700, -1));
        refuses(4, h -> h.back(100, 700, -1));
        refuses(4, h -> h.claim(100, 500, 13));
        refuses(2, h -> h.close(102, 901));
    }
}
