import java.util.ArrayList;
import java.util.List;
import java.util.function.Consumer;
import java.util.function.ObjIntConsumer;
import java.util.function.Predicate;
import java.util.function.ToIntFunction;

/**
 * A house with all that it was told: the same can be told to a new house, so that a call that is
 * refused, or one that only asks, is held against a house without that call.
 */
final class Told {
    private final MuseumHouse house = new MuseumHouse();
    private final List<ToIntFunction<MuseumHouse>> tellings = new ArrayList<>();
    private int calls = 0;
    private String seen = null;

    /** A call that must not be refused, whatever it answers. */
    Told tell(Consumer<MuseumHouse> call) {
        return gives(0, h -> run(call, h));
    }

    /** The call so many times, with numbers from 0 on. */
    Told times(int count, ObjIntConsumer<MuseumHouse> call) {
        for (int n = 0; n < count; n++) {
            int number = n;
            tell(h -> call.accept(h, number));
        }
        return this;
    }

    Told daysTo(int day) {
        int left = day - house.day(0);
        while (left > 1000) {
            tell(h -> h.day(1000));
            left -= 1000;
        }
        int rest = left;
        return tell(h -> h.day(rest)).count(1);
    }

    /** A call that may change the house, and the answer that is due. */
    Told gives(int want, ToIntFunction<MuseumHouse> call) {
        Checks.due(want, () -> call.applyAsInt(house));
        tellings.add(call);
        seen = null;
        return count(1);
    }

    Told gives(boolean want, Predicate<MuseumHouse> call) {
        return gives(want ? 1 : 0, h -> call.test(h) ? 1 : 0);
    }

    /** A call that only asks. */
    Told asked(int want, ToIntFunction<MuseumHouse> question) {
        Checks.due(want, () -> question.applyAsInt(house));
        return count(1);
    }

    Told asked(boolean want, Predicate<MuseumHouse> question) {
        return asked(want ? 1 : 0, h -> question.test(h) ? 1 : 0);
    }

    /** The exception that is due, what rule() tells then, and that nothing else changed. */
    Told refused(int rule, Consumer<MuseumHouse> call) {
        MuseumHouse other = afterOtherRule(rule);
        Checks.refused(rule, house, () -> call.accept(house));
        Checks.refused(rule, other, () -> call.accept(other));
        Checks.equal(seen(), Seen.of(() -> with(call)));
        return count(2);
    }

    /** A call that is answered, but changes nothing, not even what rule() tells. */
    Told changesNothing(Consumer<MuseumHouse> call) {
        for (int rule = 0; rule <= 1; rule++) {
            MuseumHouse asked = rule == 0 ? again() : afterOtherRule(4);
            Checks.due(0, () -> run(call, asked));
            Checks.due(rule, asked::rule);
        }
        Checks.equal(seen(), Seen.of(() -> with(call)));
        return this;
    }

    /** Whether the handle that the call names is there, as rule 1 sees it. */
    Told isThere(boolean want, Consumer<MuseumHouse> call) {
        String none = Checks.exceptionOf(1);
        String answer = Checks.told(() -> run(call, again()));
        Checks.equal(want ? "there" : "none", none.equals(answer) ? "none" : "there");
        return this;
    }

    MuseumHouse again() {
        MuseumHouse other = new MuseumHouse();
        tellings.forEach(call -> Checks.told(() -> call.applyAsInt(other)));
        return other;
    }

    private MuseumHouse afterOtherRule(int rule) {
        MuseumHouse other = again();
        Checks.told(rule == 1 ? () -> other.day(-1) : () -> other.hall(0));
        return other;
    }

    /** A house with the call, answered or refused. */
    private MuseumHouse with(Consumer<MuseumHouse> call) {
        MuseumHouse other = again();
        Checks.told(() -> run(call, other));
        return other;
    }

    private static int run(Consumer<MuseumHouse> call, MuseumHouse on) {
        call.accept(on);
        return 0;
    }

    private String seen() {
        if (seen == null) {
            seen = Seen.of(this::again);
        }
        return seen;
    }

    /** Beyond its 512th call a house may answer what it likes, so no test may go there. */
    private Told count(int more) {
        calls += more;
        if (calls > 512) {
            throw new IllegalStateException("a test with more than 512 calls");
        }
        return this;
    }
}
