import java.util.List;

/**
 * All that calls can tell of an object, so that two objects can be compared. Some of it can only be
 * told by spoiling something else, so it is read in parts, each from an object of its own.
 */
final class Seen {
    static final int PARTS = 6;
    /** No part makes more calls than this. */
    static final int MOST_CALLS = 200;

    private Seen() {
    }

    static void read(int part, CreaseLines x, List<Integer> seen) {
        switch (part) {
            case 0: kept(x, seen); break;
            case 1: slots(x, seen); break;
            case 2: sheets(x, seen); break;
            case 3: tapeAndRows(x, seen); break;
            case 4: seen.add(x.back()); kept(x, seen); break;
            default: seen.add(x.days(40)); kept(x, seen); break;
        }
    }

    private static void kept(CreaseLines x, List<Integer> seen) {
        for (int what = 0; what < 10; what++) {
            seen.add(x.count(what));
        }
        for (int what = 0; what < 6; what++) {
            seen.add(x.closet(what));
        }
        for (int leg = 0; leg < x.count(0); leg++) {
            for (int what = 0; what < 10; what++) {
                seen.add(x.told(leg, what));
            }
            seen.add(x.fine(leg));
        }
        for (int key = 0; key < 3; key++) {
            seen.add(x.why(key));
        }
        for (int text = 0; text < x.count(6); text++) {
            seen.add(x.textTold(text, 0));
            seen.add(x.textTold(text, 1));
        }
        seen.add(x.fee());
    }

    private static void slots(CreaseLines x, List<Integer> seen) {
        for (int slot = 0; slot < 5; slot++) {
            for (int kind = 0; kind < 6; kind++) {
                seen.add(x.ask(slot, kind));
            }
            row(x, slot, seen);
            seen.add(x.rest(slot, Integer.MAX_VALUE));
            seen.add(x.lay(slot, 0, 0));
        }
    }

    private static void row(CreaseLines x, int slot, List<Integer> seen) {
        for (int place = 0; place <= 24; place++) {
            int v = x.item(slot, place);
            seen.add(v);
            if (v == CreaseLines.INDEX) {
                return;
            }
        }
    }

    private static void sheets(CreaseLines x, List<Integer> seen) {
        for (int from = 0; from < 4; from++) {
            for (int to = 0; to < 4; to++) {
                seen.add(x.copy(from, 0, to, 0, 0));
            }
        }
        for (int sheet = 0; sheet < 4; sheet++) {
            x.lay(0, 0, 0);
            x.lay(0, 2, sheet);
            row(x, 0, seen);
            seen.add(x.mark(sheet, 0, CreaseLines.NONE));
        }
    }

    private static void tapeAndRows(CreaseLines x, List<Integer> seen) {
        seen.add(x.check(Math.max(1, (x.count(7) + 1) / 2)));
        seen.add(x.text());
        kept(x, seen);
    }
}
