import java.util.ArrayList;
import java.util.List;
import java.util.function.Supplier;
import java.util.function.ToIntFunction;

/**
 * All that can be seen of a house, as a text: what it answers when asked, and what only calls that
 * change it bring to light. Every scene is played in a house made anew, within its 512 calls.
 */
final class Seen {
    private static final int[] DAYS = {
        0, 1, 4, 5, 6, 9, 10, 11, 19, 20, 21, 29, 30, 31, 39, 40, 41, 49, 50, 51, 99, 100, 101,
        9998, 9999
    };
    private static final int SCENE = 200;

    private final List<List<ToIntFunction<MuseumHouse>>> scenes = new ArrayList<>();
    private final int[] made = new int[10];

    private Seen(MuseumHouse sample) {
        for (int kind = 1; kind <= 9; kind++) {
            made[kind] = sample.count(kind);
        }
        digs();
        places();
        rights();
        toldYears();
        toldMoves();
        loans();
        shows();
        claims();
        finds();
    }

    static String of(Supplier<MuseumHouse> house) {
        Seen seen = new Seen(house.get());
        StringBuilder text = new StringBuilder();
        for (int kind = 1; kind <= 9; kind++) {
            text.append(seen.made[kind]).append(' ');
        }
        for (List<ToIntFunction<MuseumHouse>> scene : seen.scenes) {
            for (int start = 0; start < scene.size(); start += SCENE) {
                MuseumHouse h = house.get();
                int end = Math.min(scene.size(), start + SCENE);
                scene.subList(start, end).forEach(question -> text.append(answer(h, question)));
                text.append('\n');
            }
        }
        return text.toString();
    }

    private static String answer(MuseumHouse h, ToIntFunction<MuseumHouse> question) {
        try {
            return question.applyAsInt(h) + " ";
        } catch (RuntimeException refused) {
            return refused.getClass().getSimpleName() + h.rule() + " ";
        }
    }

    private List<ToIntFunction<MuseumHouse>> scene() {
        List<ToIntFunction<MuseumHouse>> scene = new ArrayList<>();
        scenes.add(scene);
        return scene;
    }

    private int[] handles(int kind) {
        int[] all = new int[made[kind]];
        for (int number = 0; number < all.length; number++) {
            all[number] = 100 * kind + number;
        }
        return all;
    }

    private void digs() {
        List<ToIntFunction<MuseumHouse>> scene = scene();
        scene.add(h -> h.day(0));
        for (int a : handles(3)) {
            scene.add(h -> h.year(a, 0));
            scene.add(h -> h.year(a, 1));
            for (int b : handles(3)) {
                scene.add(h -> h.isAbove(a, b) ? 1 : 0);
            }
        }
        for (int kind = 3; kind <= 5; kind++) {
            for (int handle : handles(kind)) {
                scene.add(h -> h.origin(handle));
            }
        }
    }

    private void places() {
        List<ToIntFunction<MuseumHouse>> scene = scene();
        for (int day : DAYS) {
            for (int object : handles(5)) {
                scene.add(h -> h.place(object, day));
                scene.add(h -> h.where(object, day));
            }
            for (int store : handles(6)) {
                scene.add(h -> h.stored(store, day));
            }
        }
        for (int store : handles(6)) {
            for (int other : handles(6)) {
                scene.add(h -> h.within(store, other) ? 1 : 0);
            }
        }
        for (int show : handles(8)) {
            scene.add(h -> h.hall(show));
        }
    }

    /** Calls that are refused with the right, too, but by another rule than without it. */
    private void rights() {
        List<ToIntFunction<MuseumHouse>> scene = scene();
        for (int desk : handles(1)) {
            scene.add(h -> h.desk(desk, -1));
            scene.add(h -> h.span(desk, 300, 1, 0));
            scene.add(h -> h.carry(desk, 600, 600) ? 1 : 0);
            scene.add(h -> h.loan(desk, 500, 1, 0));
            scene.add(h -> h.show(desk, 600, 1, 0));
            scene.add(h -> h.claim(desk, 500, -1));
        }
    }

    /** A context's own years come to light when no other one's years bind them. */
    private void toldYears() {
        for (int context : handles(3)) {
            List<ToIntFunction<MuseumHouse>> scene = scene();
            for (int other : handles(3)) {
                if (other != context) {
                    scene.add(h -> h.span(100, other, 0, 999));
                }
            }
            scene.add(h -> h.year(context, 0));
            scene.add(h -> h.year(context, 1));
        }
    }

    /** Which days were told already, and how many more have room. */
    private void toldMoves() {
        for (int object : handles(5)) {
            List<ToIntFunction<MuseumHouse>> scene = scene();
            for (int day : DAYS) {
                scene.add(h -> h.move(100, object, 600, day) ? 1 : 0);
            }
        }
    }

    private void loans() {
        List<ToIntFunction<MuseumHouse>> scene = scene();
        for (int loan : handles(7)) {
            for (int at = DAYS.length - 1; at >= 0; at--) {
                int day = DAYS[at];
                scene.add(h -> h.back(100, loan, day));
            }
        }
    }

    private void shows() {
        List<ToIntFunction<MuseumHouse>> taken = scene();
        for (int show : handles(8)) {
            for (int object : handles(5)) {
                taken.add(h -> h.take(100, show, object) ? 1 : 0);
            }
        }
        int last = 500 + made[5] - 1;
        for (int show : handles(8)) {
            List<ToIntFunction<MuseumHouse>> hung = scene();
            for (int claim : handles(9)) {
                hung.add(h -> h.close(100, claim));
            }
            hung.add(h -> h.hang(100, show, last) ? 1 : 0);
            for (int day : DAYS) {
                hung.add(h -> h.where(last, day));
            }
        }
    }

    private void claims() {
        List<ToIntFunction<MuseumHouse>> closed = scene();
        for (int claim : handles(9)) {
            closed.add(h -> h.close(100, claim));
        }
        List<ToIntFunction<MuseumHouse>> claimed = scene();
        for (int object : handles(5)) {
            for (int source = 0; source <= 9; source++) {
                int by = source;
                claimed.add(h -> h.claim(100, object, by));
            }
        }
    }

    /** Which finds are objects, and the days of those that are none yet. */
    private void finds() {
        for (int find : handles(4)) {
            scene().add(h -> firstDay(h, h.object(100, find)));
        }
    }

    private static int firstDay(MuseumHouse h, int object) {
        for (int day : DAYS) {
            if (h.where(object, day) != 0) {
                return day;
            }
        }
        return -1;
    }
}
