/** Promises 37 to 41: rows that wait, images, counts. */
public final class RowsTest {
    private static final int BAD = CreaseLines.BAD;
    private static final Due due = new Due();

    public static void main(String[] args) {
        tell();
        check();
        checkAtTheEnd();
        keepAndBack();
        count();
        due.end();
    }

    private static void tell() {
        CreaseLines x = new CreaseLines();
        for (int i = 1; i <= 60; i++) {
            due.is("tell", x.tell(-i), i);
        }
        due.is("tell, FULL", x.tell(0), CreaseLines.FULL);
        due.is("sixty", x.count(7), 60);
    }

    /** The rows that are due, told by living the days and going back. */
    private static int[] rows(CreaseLines x, int n) {
        int[] rows = new int[2 * n];
        x.back();
        for (int i = 0; i < n; i++) {
            x.days(1);
            rows[2 * i] = x.closet(0);
            rows[2 * i + 1] = x.closet(3);
        }
        return rows;
    }

    private static int checked(CreaseLines x, int n, int[] rows, int many) {
        for (int i = 0; i < many; i++) {
            x.tell(i < rows.length ? rows[i] : 0);
        }
        return x.check(n);
    }

    private static void check() {
        CreaseLines x = new CreaseLines();
        x.tell(1);
        due.is("check, NO", x.check(1), CreaseLines.NO);
        due.is("none wait", x.count(7), 0);
        x.tell(1);
        due.is("check, BAD ahead of NO", x.check(0), BAD);
        due.is("none wait", x.count(7), 0);
        x.deal(5);
        x.days(9);
        x.keep();
        x.tell(1);
        due.is("check 31", x.check(31), BAD);
        due.is("none wait", x.count(7), 0);
        int[] rows = rows(x, 30);
        int day = x.count(1);
        due.is("all", checked(x, 30, rows, 60), 0);
        due.is("none wait", x.count(7), 0);
        due.is("nothing changes", x.count(1), day);
        for (int many = 0; many <= 8; many++) {
            due.is("missing or too many", checked(x, 3, rows, many), many == 6 ? 0 : 1 + Math.min(many, 6));
        }
        for (int wrong = 0; wrong < 6; wrong++) {
            int[] other = rows.clone();
            other[wrong]++;
            due.is("the first that is not", checked(x, 3, other, 6), 1 + wrong);
            due.is("and one is missing", checked(x, 3, other, 5), 1 + Math.min(wrong, 5));
        }
        x.rule(0, 100);
        x.set(0, 2, 0);
        due.is("by THE IMAGE, not by now", checked(x, 3, rows, 6), 0);
    }

    private static void checkAtTheEnd() {
        CreaseLines x = new CreaseLines();
        for (int i = 0; i < 100; i++) {
            x.days(i < 99 ? 100 : 97);
        }
        x.deal(2);
        x.keep();
        due.is("THE DAY", x.count(1), 9997);
        int[] rows = rows(x, 2);
        due.is("two days are left", checked(x, 30, rows, 4), 0);
        due.is("no third day", checked(x, 30, rows, 5), 5);
        due.is("one of them", checked(x, 1, rows, 2), 0);
        x.keep();
        due.is("no days: none is right", x.check(9), 0);
        x.tell(0);
        due.is("no days: one too many", x.check(9), 1);
    }

    private static void keepAndBack() {
        CreaseLines x = new CreaseLines();
        due.is("back, NO", x.back(), CreaseLines.NO);
        due.is("keep, no legs", x.keep(), 0);
        x.seed(5);
        x.deal(3);
        Due.text(x, "fee p+1");
        x.rule(2, 77);
        x.days(3);
        due.is("keep", x.keep(), 3);
        int[] before = state(x);
        for (int again = 0; again < 3; again++) {
            x.deal(4);
            Due.text(x, "fee 0");
            Due.text(x, "press 1");
            x.rule(0, 99);
            x.rule(1, 0);
            x.rule(2, 1);
            x.rule(3, 1);
            x.set(0, 2, 1);
            x.turns(1, 5);
            x.days(20);
            x.irons(0, 3);
            due.is("back", x.back(), 3);
            due.isTrue("all is as it was", java.util.Arrays.equals(before, state(x)));
            due.is("the text that counts", x.why(1), 0);
            due.is("no text of press", x.why(0), CreaseLines.NONE);
            due.is("a text that is gone", x.textTold(1, 0), BAD);
        }
        Due.text(x, "fine 9");
        due.is("another text in its place", x.textTold(1, 0), 2);
        x.back();
        due.is("gone", x.fine(0), x.told(0, 2));
        whatStays();
    }

    private static void whatStays() {
        CreaseLines x = new CreaseLines();
        x.keep();
        x.sheet(0, 0, 3);
        x.lay(0, 3, 4);
        x.tell(1);
        x.feed(1, 2, 3);
        x.leg(0, 0, 0);
        due.is("back", x.back(), 0);
        due.is("the sheet stays", x.mark(0, 2, 1), 1);
        due.is("the slot stays", x.rest(0, 3), 1);
        due.is("the number waits", x.count(7), 1);
        due.is("the tape stays", x.count(8), 12);
        due.is("the leg is gone", x.told(0, 0), BAD);
        x.leg(3, 3, 3);
        x.set(0, 5, 9);
        x.back();
        x.leg(1, 1, 1);
        due.leg(x, 0, 1, 1, 1, 0, 0, 0);
    }

    private static int[] state(CreaseLines x) {
        int[] all = new int[150];
        int at = 0;
        for (int what = 0; what < 10; what++) {
            for (int leg = 0; leg < 10; leg++) {
                all[at++] = x.told(leg, what);
            }
            all[at++] = x.count(what);
            all[at++] = x.closet(what);
        }
        all[at] = x.fee();
        return all;
    }

    private static void count() {
        CreaseLines x = new CreaseLines();
        x.deal(2);
        x.days(3);
        x.rule(0, 1);
        x.rule(1, 2);
        x.rule(2, 3);
        x.rule(3, 4);
        Due.text(x, "fee 1");
        x.tell(1);
        x.tell(1);
        x.feed(0, 0, 0);
        x.seed(-9);
        int[] want = {2, 3, 1, 2, 3, 4, 1, 2, 12, -9};
        for (int what = 0; what < 10; what++) {
            due.is("count(" + what + ")", x.count(what), want[what]);
        }
        due.is("count(10)", x.count(10), BAD);
        due.is("count(-1)", x.count(-1), BAD);
    }
}
