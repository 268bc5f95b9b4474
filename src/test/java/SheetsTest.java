/** Promises 28 to 36: sheets and slots. */
public final class SheetsTest {
    private static final int BAD = CreaseLines.BAD;
    private static final int NONE = CreaseLines.NONE;
    private static final int NOTHING = CreaseLines.NOTHING;
    private static final int KIND = CreaseLines.KIND;
    private static final int INDEX = CreaseLines.INDEX;
    private static final Due due = new Due();

    public static void main(String[] args) {
        sheet();
        mark();
        pour();
        reads();
        copy();
        lay();
        ask();
        item();
        rest();
        due.end();
    }

    /** What stands in a sheet, by way of the last slot. */
    private static void row(CreaseLines x, int sheet, int... want) {
        x.lay(4, 2, sheet);
        for (int i = 0; i < want.length; i++) {
            due.is("place " + i + " of sheet " + sheet, x.item(4, i), want[i]);
        }
        due.is("no place more", x.item(4, want.length), INDEX);
        x.lay(4, 0, 0);
    }

    private static void marks(CreaseLines x, int sheet, int... v) {
        for (int i = 0; i < v.length; i++) {
            due.is("mark", x.mark(sheet, i, v[i]), 1);
        }
    }

    private static void sheet() {
        CreaseLines x = new CreaseLines();
        due.is("sheet", x.sheet(0, 0, 24), 24);
        row(x, 0, new int[24]);
        due.is("sheet, floats", x.sheet(3, 1, 2), 2);
        row(x, 3, 0, 0);
        due.is("sheet, no places", x.sheet(1, 1, 0), 0);
        row(x, 1);
        x.mark(0, 0, 7);
        due.is("all 0 again", x.sheet(0, 0, 1), 1);
        row(x, 0, 0);
        due.is("SIZE", x.sheet(0, 0, -1), CreaseLines.SIZE);
        due.is("SIZE, least", x.sheet(0, 1, Integer.MIN_VALUE), CreaseLines.SIZE);
        due.is("n 25", x.sheet(0, 0, 25), BAD);
        due.is("sheet 4", x.sheet(4, 0, -1), BAD);
        due.is("sheet -1", x.sheet(-1, 0, 1), BAD);
        due.is("sort 2", x.sheet(0, 2, -1), BAD);
        due.is("sort -2", x.sheet(0, -2, 1), BAD);
        row(x, 0, 0);
        due.is("MISSING, n any", x.sheet(0, -1, 1000), 0);
        due.is("is MISSING", x.reads(0), NOTHING);
        due.is("MISSING, n below 0", x.sheet(0, -1, -1000), 0);
    }

    private static void mark() {
        CreaseLines x = new CreaseLines();
        due.is("mark, MISSING", x.mark(0, 0, 1), NOTHING);
        due.is("mark, sheet 4", x.mark(4, 0, 1), BAD);
        due.is("mark, sheet -1", x.mark(-1, 0, 1), BAD);
        x.sheet(0, 0, 5);
        marks(x, 0, 32767, 32768, -1, 65536, 0x12348001);
        row(x, 0, 32767, -32768, -1, 0, -32767);
        due.is("mark, place 5", x.mark(0, 5, NONE), INDEX);
        due.is("mark, place -1", x.mark(0, -1, 0), INDEX);
        due.is("NONE in shorts", x.mark(0, 0, NONE), KIND);
        due.is("BAD in shorts is a number", x.mark(0, 0, BAD), 1);
        row(x, 0, (short) BAD, -32768, -1, 0, -32767);
        x.sheet(1, 1, 4);
        marks(x, 1, 99999, -99999, NONE, 5);
        due.is("too far", x.mark(1, 3, 100000), BAD);
        due.is("too far below", x.mark(1, 3, -100000), BAD);
        due.is("INDEX ahead of BAD", x.mark(1, 4, 100000), INDEX);
        row(x, 1, 99999, -99999, KIND, 5);
        due.is("a number again", x.mark(1, 2, 0), 1);
        row(x, 1, 99999, -99999, 0, 5);
    }

    private static void pour() {
        CreaseLines x = new CreaseLines();
        for (int i = 0; i < 6; i++) {
            x.leg(0, i, 50);
        }
        due.is("pour, MISSING", x.pour(2), NOTHING);
        due.is("pour, sheet 4", x.pour(4), BAD);
        due.is("pour, sheet -1", x.pour(-1), BAD);
        x.sheet(2, 1, 5);
        marks(x, 2, 200, -5, NONE, 50, 51);
        due.is("pour", x.pour(2), 3);
        int[] want = {99, 0, 50, 50, 51, 50};
        for (int i = 0; i < 6; i++) {
            due.is("SHARP", x.told(i, 2), want[i]);
        }
        due.is("pour again", x.pour(2), 0);
        x.sheet(1, 0, 24);
        due.is("beyond the legs", x.pour(1), 5);
        x.sheet(1, 0, 0);
        due.is("no places", x.pour(1), 0);
    }

    private static void reads() {
        CreaseLines x = new CreaseLines();
        due.is("reads, MISSING", x.reads(0), NOTHING);
        due.is("reads, sheet 4", x.reads(4), BAD);
        due.is("reads, sheet -1", x.reads(-1), BAD);
        x.leg(0, 4, 0);
        x.leg(0, 5, 0);
        x.sheet(0, 1, 4);
        marks(x, 0, 4, 5, NONE, NONE);
        due.is("reads", x.reads(0), NONE);
        x.mark(0, 3, 0);
        due.is("no leg", x.reads(0), 3);
        x.mark(0, 1, 6);
        due.is("not the PLACE", x.reads(0), 1);
        x.mark(0, 0, NONE);
        x.mark(0, 1, NONE);
        due.is("no number", x.reads(0), 3);
        x.sheet(0, 0, 0);
        due.is("no places", x.reads(0), NONE);
    }

    private static void copy() {
        CreaseLines x = new CreaseLines();
        due.is("copy, from 4", x.copy(4, 0, 0, 0, 0), BAD);
        due.is("copy, to -1", x.copy(0, 0, -1, 0, 0), BAD);
        due.is("copy, to 4", x.copy(0, 0, 4, 0, 0), BAD);
        due.is("copy, MISSING", x.copy(0, 0, 1, 0, 0), NOTHING);
        x.sheet(0, 0, 5);
        due.is("copy, to MISSING", x.copy(0, 0, 1, 0, 0), NOTHING);
        due.is("copy, from MISSING", x.copy(1, 0, 0, 0, 0), NOTHING);
        x.sheet(1, 1, 5);
        due.is("copy, KIND ahead of INDEX", x.copy(0, 0, 1, 0, -1), KIND);
        marks(x, 0, 1, 2, 3, 4, 5);
        due.is("to the right", x.copy(0, 0, 0, 1, 4), 4);
        row(x, 0, 1, 1, 2, 3, 4);
        due.is("to the left", x.copy(0, 1, 0, 0, 4), 4);
        row(x, 0, 1, 2, 3, 4, 4);
        x.sheet(2, 0, 3);
        due.is("to another", x.copy(0, 2, 2, 1, 2), 2);
        row(x, 2, 0, 3, 4);
        row(x, 0, 1, 2, 3, 4, 4);
        due.is("none, right behind", x.copy(0, 5, 2, 3, 0), 0);
        due.is("none, beyond", x.copy(0, 6, 2, 3, 0), INDEX);
        due.is("none, beyond the other", x.copy(0, 5, 2, 4, 0), INDEX);
        due.is("below 0", x.copy(0, 0, 2, 0, -1), INDEX);
        due.is("place -1", x.copy(0, -1, 2, 0, 1), INDEX);
        due.is("at -1", x.copy(0, 0, 2, -1, 1), INDEX);
        due.is("beyond from", x.copy(0, 4, 2, 0, 2), INDEX);
        due.is("beyond to", x.copy(0, 0, 2, 0, 4), INDEX);
        due.is("most", x.copy(0, 1, 2, 1, Integer.MAX_VALUE), INDEX);
        due.is("place most", x.copy(0, Integer.MAX_VALUE, 2, 0, 1), INDEX);
        due.is("at most", x.copy(0, 0, 2, Integer.MAX_VALUE, 1), INDEX);
        row(x, 2, 0, 3, 4);
        x.sheet(3, 1, 2);
        x.mark(1, 0, NONE);
        due.is("NO NUMBER comes too", x.copy(1, 0, 3, 1, 1), 1);
        row(x, 3, 0, KIND);
    }

    private static void lay() {
        CreaseLines x = new CreaseLines();
        x.leg(0, 0, 9);
        x.sheet(1, 0, 1);
        due.is("lay a number", x.lay(0, 3, Integer.MIN_VALUE), 0);
        due.is("lay a sheet", x.lay(0, 2, 1), 3);
        due.is("lay a leg", x.lay(0, 1, 0), 2);
        due.is("lay nothing", x.lay(0, 0, -77), 1);
        due.is("it holds nothing", x.lay(0, 0, 0), 0);
        due.is("lay, slot 5", x.lay(5, 0, 0), BAD);
        due.is("lay, slot -1", x.lay(-1, 0, 0), BAD);
        due.is("lay, thing 4", x.lay(0, 4, 0), BAD);
        due.is("lay, thing -1", x.lay(0, -1, 0), BAD);
        due.is("lay, leg 1", x.lay(0, 1, 1), BAD);
        due.is("lay, leg -1", x.lay(0, 1, -1), BAD);
        due.is("lay, sheet 4", x.lay(0, 2, 4), BAD);
        due.is("lay, sheet -1", x.lay(0, 2, -1), BAD);
        due.is("lay, MISSING", x.lay(0, 2, 0), NOTHING);
        due.is("it holds nothing still", x.lay(0, 0, 0), 0);
        x.lay(1, 2, 1);
        x.mark(1, 0, 5);
        due.is("a row of its own", x.item(1, 0), 0);
        x.sheet(1, -1, 0);
        due.is("a row of its own, still", x.item(1, 0), 0);
        x.lay(2, 1, 0);
        x.set(0, 2, 80);
        x.turns(0, 5);
        due.is("as it was then", x.ask(2, 0), 9);
        x.keep();
        x.lay(3, 3, 8);
        x.back();
        due.is("an image keeps no slots", x.rest(3, 10), 8);
    }

    private static void ask() {
        CreaseLines x = LegsTest.allKinds();
        due.is("ask, nothing", x.ask(0, 0), NOTHING);
        due.is("ask, slot 5", x.ask(5, 0), BAD);
        due.is("ask, slot -1", x.ask(-1, 0), BAD);
        due.is("ask, kind 6", x.ask(0, 6), BAD);
        due.is("ask, kind -1", x.ask(0, -1), BAD);
        for (int leg = 0; leg < 6; leg++) {
            x.set(leg, 4, 30);
            x.set(leg, 5, 3);
            x.lay(0, 1, leg);
            for (int kind = 0; kind < 6; kind++) {
                due.is("ask " + leg + " as " + kind, x.ask(0, kind), x.as(leg, kind) == KIND ? KIND : x.told(leg, 9));
            }
        }
        x.lay(1, 1, 3);
        due.is("WAXED, taken for a LEG", x.ask(1, 0), 106);
        x.lay(1, 3, 3);
        due.is("ask, a number", x.ask(1, 0), KIND);
        x.sheet(0, 0, 1);
        x.lay(1, 2, 0);
        due.is("ask, a sheet", x.ask(1, 0), KIND);
    }

    private static void item() {
        CreaseLines x = new CreaseLines();
        due.is("item, nothing", x.item(0, 0), NOTHING);
        due.is("item, slot 5", x.item(5, 0), BAD);
        due.is("item, slot -1", x.item(-1, 0), BAD);
        x.lay(0, 3, 1);
        due.is("item, a number", x.item(0, 0), KIND);
        x.leg(0, 0, 0);
        x.lay(0, 1, 0);
        due.is("item, a leg", x.item(0, 99), KIND);
        x.sheet(0, 1, 2);
        marks(x, 0, NONE, -7);
        x.lay(0, 2, 0);
        due.is("item, NO NUMBER", x.item(0, 0), KIND);
        due.is("item", x.item(0, 1), -7);
        due.is("item, place 2", x.item(0, 2), INDEX);
        due.is("item, place -1", x.item(0, -1), INDEX);
    }

    private static void rest() {
        CreaseLines x = new CreaseLines();
        due.is("rest, nothing", x.rest(0, 0), NOTHING);
        due.is("rest, slot 5", x.rest(5, 0), BAD);
        due.is("rest, slot -1", x.rest(-1, 0), BAD);
        x.lay(0, 3, 17);
        due.is("rest", x.rest(0, 5), 2);
        due.is("rest, by below 0", x.rest(0, -5), 2);
        due.is("rest, NO", x.rest(0, 0), CreaseLines.NO);
        x.lay(0, 3, -17);
        due.is("rest, below 0", x.rest(0, 5), -2);
        x.lay(0, 3, Integer.MIN_VALUE);
        due.is("rest, least by -1", x.rest(0, -1), 0);
        x.leg(0, 0, 0);
        x.lay(0, 1, 0);
        due.is("rest, a leg", x.rest(0, 0), KIND);
        x.sheet(0, 0, 0);
        x.lay(0, 2, 0);
        due.is("rest, a sheet", x.rest(0, 3), KIND);
    }
}
