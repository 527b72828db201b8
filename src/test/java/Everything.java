import java.util.ArrayList;
import java.util.List;

/**
 * All that can be asked of an object, in some 400 calls at most: two that were made alike tell the same. It uses the
 * object up: TRAYS, tape, VALLEY and MARKS are others behind it.
 */
final class Everything {
    private static final int PLACES_LOOKED_AT = 6;
    private static final long ALL_SORTS_TELL = 0x4142434445464748L;

    private final GivenUp x;
    private final List<Long> all = new ArrayList<>();

    private Everything(GivenUp x) {
        this.x = x;
    }

    static List<Long> of(GivenUp x) {
        Everything e = new Everything(x);
        e.fraction();
        e.trays();
        e.valley();
        e.became();
        e.lived();
        e.life();
        e.marks();
        e.tape();
        return e.all;
    }

    private void add(long v) {
        all.add(v);
    }

    private void fraction() {
        add(x.top());
        add(x.bottom());
        add(x.fault(0));
        add(x.fault(1));
    }

    private void trays() {
        for (int tray = 0; tray < 4; tray++) {
            for (int place = 0; place < PLACES_LOOKED_AT; place++) {
                add(x.read(tray, place));
                if (x.status() != 0) {
                    add(x.status());
                    break;
                }
            }
            x.write(tray, 0, ALL_SORTS_TELL);
            add(x.read(tray, 0));
        }
    }

    private void valley() {
        int suitors = x.told(0);
        int maids = x.told(1);
        int things = x.told(2);
        for (int what = 0; what < 10; what++) {
            add(x.told(what));
        }
        for (int maid = 0; maid < maids; maid++) {
            for (int what = 0; what < 5; what++) {
                add(x.maid(maid, what));
            }
            for (int suitor = 0; suitor < suitors; suitor++) {
                add(x.likes(suitor, maid));
            }
            for (int thing = 0; thing < things; thing++) {
                add(x.says(thing, maid));
            }
        }
        for (int thing = 0; thing < things; thing++) {
            add(x.thing(thing, 0));
            add(x.thing(thing, 1));
            add(x.thing(thing, 3));
            add(x.thing(thing, 4));
            add(x.needs(thing));
        }
        for (int suitor = 0; suitor < suitors; suitor++) {
            add(x.never(suitor));
        }
    }

    private void became() {
        for (int suitor = 0; suitor < x.told(0); suitor++) {
            for (int what = 0; what < 7; what++) {
                add(x.suitor(suitor, what));
            }
        }
        add(x.told(6));
        add(x.told(7));
        add(x.told(8));
        add(x.told(9));
    }

    private void lived() {
        for (int what = 0; what < 5; what++) {
            add(x.lived(what));
        }
    }

    private void life() {
        add(x.live(77));
        lived();
        add(x.told(8));
    }

    private void marks() {
        for (int mark = 0; mark < 4; mark++) {
            add(x.undo());
            if (x.status() != 0) {
                return;
            }
            became();
            add(x.told(2));
            add(x.told(4));
            add(x.likes(0, 0));
            add(x.maid(0, 0));
            add(x.live(7));
        }
    }

    private void tape() {
        int n = x.feed(0x20202020, 0, 0, 0, 0);
        add(n);
        add(x.valley(Math.max(0, n)));
        add(x.fault(0));
        add(x.fault(1));
        add(x.feed(0, 0, 0, 0, 0));
    }
}
