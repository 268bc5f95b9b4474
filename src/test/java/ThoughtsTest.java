/** Promises 13 to 22: what will be, and that nothing changes by thinking of it. */
public final class ThoughtsTest {
    private static final int BAD = CreaseLines.BAD;
    private static final int NONE = CreaseLines.NONE;
    private static final Due due = new Due();

    public static void main(String[] args) {
        behind();
        dulls();
        doubles();
        doublesLate();
        wax();
        iron();
        first();
        becomes();
        like();
        feeAndFine();
        nothingChanges();
        due.end();
    }

    private static CreaseLines dealt(int seed, int n) {
        CreaseLines x = new CreaseLines();
        x.seed(seed);
        x.deal(n);
        return x;
    }

    /** No rain, and none is pressed: legs only lose. */
    private static CreaseLines still() {
        CreaseLines x = new CreaseLines();
        x.rule(0, 0);
        x.rule(2, 0);
        return x;
    }

    private static void behind() {
        for (int n = 0; n <= 100; n += 25) {
            CreaseLines x = dealt(n + 3, 5);
            CreaseLines y = dealt(n + 3, 5);
            if (n > 0) {
                y.days(n);
            }
            due.is("behind, PRESSED", x.behind(n, 0), y.closet(0));
            due.is("behind, TWOS", x.behind(n, 1), y.closet(1));
            due.is("behind, TRAM", x.behind(n, 2), Integer.bitCount(y.closet(4)));
            for (int k = 0; k < 5; k++) {
                due.is("behind, SHARP", x.behind(n, 3 + k), y.told(k, 2));
            }
            due.is("behind, no leg", x.behind(n, 8), BAD);
        }
        CreaseLines x = dealt(1, 5);
        due.is("behind, n 101", x.behind(101, 0), BAD);
        due.is("behind, n -1", x.behind(-1, 0), BAD);
        due.is("behind, what -1", x.behind(1, -1), BAD);
        due.is("behind, what most", x.behind(1, Integer.MAX_VALUE), BAD);
        due.is("behind, what least", x.behind(1, Integer.MIN_VALUE), BAD);
    }

    private static void dulls() {
        CreaseLines x = still();
        x.leg(0, 0, 50);
        x.leg(5, 0, 99);
        due.is("now", x.dulls(0, 51), 0);
        // worn on the first day of each two, 5 a day
        due.is("behind one", x.dulls(0, 50), 1);
        due.is("behind three", x.dulls(0, 45), 3);
        due.is("below 1", x.dulls(0, 1), 19);
        due.is("below 0", x.dulls(0, 0), NONE);
        due.is("TWEED, a hundred times", x.dulls(1, 1), 198);
        x.leg(5, 0, 67);
        due.is("behind 200 just", x.dulls(1, 33), 200);
        due.is("behind 203", x.dulls(1, 32), NONE);
        due.is("behind 201", x.dulls(2, 1), NONE);
        due.is("dulls, v 100", x.dulls(0, 100), BAD);
        due.is("dulls, v -1", x.dulls(0, -1), BAD);
        due.is("dulls, leg", x.dulls(3, 1), BAD);
        due.is("dulls, leg -1", x.dulls(-1, 1), BAD);
    }

    private static void doubles() {
        CreaseLines x = still();
        x.leg(0, 0, 50);
        due.is("never", x.doubles(0), NONE);
        x.set(0, 3, 1);
        due.is("now", x.doubles(0), 0);
        due.is("doubles, leg", x.doubles(1), BAD);
        due.is("doubles, leg -1", x.doubles(-1), BAD);
        for (int seed = 0; seed < 12; seed++) {
            CreaseLines a = dealt(seed, 4);
            CreaseLines b = dealt(seed, 4);
            int day = 0;
            while (day < 200 && b.told(2, 3) == 0) {
                b.days(1);
                day++;
            }
            due.is("doubles, seed " + seed, a.doubles(2), b.told(2, 3) > 0 ? day : NONE);
        }
    }

    /** Three TWEED legs, one of which is below CARE behind so many days first, and pressed then. */
    private static CreaseLines dullLate(int seed, int leg, int sharp) {
        CreaseLines x = new CreaseLines();
        x.rule(0, 0);
        x.rule(1, 0);
        x.rule(2, 4);
        for (int i = 0; i < 3; i++) {
            x.leg(5, 0, i == leg ? sharp : 99);
        }
        x.seed(seed);
        return x;
    }

    private static void doublesLate() {
        int found = 0;
        for (int seed = 0; seed < 8; seed++) {
            CreaseLines y = dullLate(seed, 1, 70);
            y.days(100);
            y.days(99);
            due.is("not pressed yet", y.closet(0), 0);
            due.is("pressed behind 200", y.days(1), 1);
            boolean two = y.told(1, 3) > 0;
            found += two ? 1 : 0;
            due.is("doubles behind 200", dullLate(seed, 1, 70).doubles(1), two ? 200 : NONE);
            due.is("doubles behind 201", dullLate(seed, 2, 70).doubles(2), NONE);
        }
        due.isTrue("some have two", found > 0);
    }

    private static void wax() {
        CreaseLines x = still();
        x.rule(2, 40);
        x.leg(0, 0, 42);
        x.leg(0, 0, 42);
        x.leg(0, 0, 90);
        due.is("none is dull now", x.wax(0), 0);
        // LEG loses 5 and is below 40, WAXED loses 1; whoever is pressed is above CARE again
        due.is("pressed at once", x.wax(1), 0);
        x.rule(3, 0);
        due.is("a cold iron: the first", x.wax(1), 1);
        due.is("both", x.wax(2), 3);
        x.turns(0, 3);
        due.is("who is waxed already need not be", x.wax(2), 2);
        x.set(2, 2, 39);
        due.is("no set", x.wax(0), NONE);
        x.rule(2, 0);
        due.is("CARE 0", x.wax(20), 0);
        due.is("wax, n 21", x.wax(21), BAD);
        due.is("wax, n -1", x.wax(-1), BAD);
        due.is("no legs", new CreaseLines().wax(20), 0);
        leastOfFewest();
    }

    private static void leastOfFewest() {
        CreaseLines x = new CreaseLines();
        x.rule(0, 0);
        x.leg(2, 0, 10);
        x.leg(2, 0, 10);
        int found = x.wax(9);
        int want = NONE;
        for (int set : new int[] {0, 1, 2, 3}) {
            CreaseLines y = new CreaseLines();
            y.rule(0, 0);
            y.leg((set & 1) != 0 ? 3 : 2, 0, 10);
            y.leg((set & 2) != 0 ? 3 : 2, 0, 10);
            y.days(9);
            if (want == NONE && y.told(0, 2) >= 40 && y.told(1, 2) >= 40) {
                want = set;
            }
        }
        due.is("by trying all", found, want);
    }

    private static void iron() {
        CreaseLines x = new CreaseLines();
        x.rule(0, 0);
        x.leg(0, 0, 44);
        due.is("now", x.iron(0, 44), 0);
        due.is("now, more", x.iron(0, 45), NONE);
        // one day: 39 is below CARE, so it is pressed, and takes HEAT
        due.is("HEAT", x.iron(1, 77), 77);
        due.is("HEAT 0", x.iron(1, 0), 0);
        due.is("HEAT 99", x.iron(1, 99), 99);
        due.is("HEAT 100", x.iron(1, 100), NONE);
        due.is("iron, n 31", x.iron(31, 0), BAD);
        due.is("iron, n -1", x.iron(-1, 0), BAD);
        due.is("iron, v 991", x.iron(0, 991), BAD);
        due.is("iron, v -1", x.iron(0, -1), BAD);
        due.is("iron, v 990", x.iron(30, 990), NONE);
        due.is("HEAT is as it was", x.count(5), 60);
        Due.text(x, "press 99-h");
        due.is("by a text", x.iron(1, 50), 0);
        Due.text(x, "press (h=7)*50");
        due.is("one HEAT alone", x.iron(1, 50), 7);
    }

    private static void first() {
        CreaseLines x = still();
        due.is("no legs", x.first(1, 0), NONE);
        due.is("no legs, BAD", x.first(0, 0), BAD);
        x.leg(0, 0, 50);
        x.leg(0, 0, 10);
        x.leg(1, 0, 20);
        // by a pressing: 10 more, 50 more, 50 more
        due.is("the least of the best", x.first(1, 0), 1);
        due.is("together", x.first(1, 1), 45 + 60 + 20);
        x.set(2, 5, 1);
        due.is("the best", x.first(1, 0), 2);
        due.is("together", x.first(1, 1), 45 + 10 + 73);
        due.is("first, n 61", x.first(61, 0), BAD);
        due.is("first, n 0", x.first(0, 0), BAD);
        due.is("first, what 2", x.first(1, 2), BAD);
        due.is("first, what -1", x.first(1, -1), BAD);
        for (int seed = 0; seed < 6; seed++) {
            int best = -1;
            int most = -1;
            for (int i = 0; i < 4; i++) {
                CreaseLines y = dealt(seed, 4);
                y.irons(i, 0);
                y.days(60);
                if (y.closet(3) > most) {
                    most = y.closet(3);
                    best = i;
                }
            }
            due.is("first by trying", dealt(seed, 4).first(60, 0), best);
            due.is("most by trying", dealt(seed, 4).first(60, 1), most);
        }
        firstIsAlong();
    }

    private static void firstIsAlong() {
        CreaseLines x = still();
        x.rule(1, 0);
        x.leg(0, 0, 99);
        x.set(0, 5, 5);
        Due.text(x, "press o");
        // pressed now, and once more behind a day: TAKES is HOLDS, 6 by then
        x.rule(2, 99);
        due.is("BESIDE by 0 holds", x.first(1, 1), 6);
    }

    private static void becomes() {
        CreaseLines x = still();
        x.leg(2, 0, 50);
        x.leg(0, 0, 50);
        // in one day TWEED and WAXED lose 1: WAXED is the least
        due.is("WAXED", x.becomes(0, 1, 0), 3);
        due.is("together", x.becomes(0, 1, 1), 99);
        due.is("not worn: the least KIND", x.becomes(1, 1, 0), 0);
        due.is("becomes, leg", x.becomes(2, 1, 0), BAD);
        due.is("becomes, leg -1", x.becomes(-1, 1, 0), BAD);
        due.is("becomes, n 0", x.becomes(0, 0, 0), BAD);
        due.is("becomes, n 61", x.becomes(0, 61, 0), BAD);
        due.is("becomes, what 2", x.becomes(0, 1, 2), BAD);
        due.is("becomes, what -1", x.becomes(0, 1, -1), BAD);
        for (int seed = 0; seed < 6; seed++) {
            int best = -1;
            int most = -1;
            for (int kind = 0; kind < 6; kind++) {
                CreaseLines y = dealt(seed, 3);
                y.turns(1, kind);
                y.days(60);
                if (y.closet(3) > most) {
                    most = y.closet(3);
                    best = kind;
                }
            }
            due.is("becomes by trying", dealt(seed, 3).becomes(1, 60, 0), best);
            due.is("most by trying", dealt(seed, 3).becomes(1, 60, 1), most);
        }
    }

    private static void like() {
        CreaseLines x = still();
        due.is("like, MISSING ahead of no legs", x.like(0, 0), CreaseLines.NOTHING);
        x.sheet(0, 1, 3);
        due.is("no legs", x.like(0, 0), NONE);
        x.leg(0, 10, 50);
        x.leg(0, 20, 50);
        x.leg(0, 30, 50);
        x.mark(0, 0, 14);
        x.mark(0, 1, CreaseLines.NONE);
        x.mark(0, 2, 26);
        due.is("like", x.like(0, 0), 1);
        due.is("differences", x.like(0, 1), 12);
        x.mark(0, 2, CreaseLines.NONE);
        x.mark(0, 0, 15);
        due.is("of several the least", x.like(0, 0), 0);
        due.is("differences", x.like(0, 1), 5);
        x.mark(0, 0, -99999);
        due.is("far", x.like(0, 1), 100009);
        x.sheet(0, 0, 0);
        due.is("no places", x.like(0, 0), 0);
        due.is("no differences", x.like(0, 1), 0);
        due.is("like, sheet 4", x.like(4, 0), BAD);
        due.is("like, sheet -1", x.like(-1, 0), BAD);
        due.is("like, what 2", x.like(0, 2), BAD);
        due.is("like, what -1", x.like(0, -1), BAD);
        placesMove();
    }

    private static void placesMove() {
        CreaseLines x = dealt(11, 3);
        x.rule(1, 0);
        x.rule(2, 99);
        x.sheet(1, 0, 24);
        x.keep();
        for (int k = 0; k < 24; k++) {
            x.mark(1, k, x.told(2, 1));
            x.days(1);
        }
        x.back();
        due.is("as it will be", x.like(1, 0), 2);
        due.is("to the place", x.like(1, 1), 0);
    }

    private static void feeAndFine() {
        CreaseLines x = new CreaseLines();
        x.leg(0, 0, 33);
        x.set(0, 4, 12);
        due.is("fee, no text", x.fee(), 0);
        x.irons(0, 3);
        x.irons(0, 0);
        due.is("fee, PRESSED", x.fee(), 2);
        due.is("fine, SHARP", x.fine(0), 63);
        Due.text(x, "fee 0-p*1000-t");
        due.is("fee", x.fee(), -2001);
        Due.text(x, "fine s-k*100");
        due.is("fine", x.fine(0), 63 - 300);
        due.is("fine, leg", x.fine(1), BAD);
        due.is("fine, leg -1", x.fine(-1), BAD);
    }

    private static int[] allOf(CreaseLines x) {
        int[] all = new int[130];
        int at = 0;
        for (int i = 0; i < 10; i++) {
            for (int what = 0; what < 10; what++) {
                all[at++] = x.told(i, what);
            }
        }
        for (int what = 0; what < 10; what++) {
            all[at++] = x.count(what);
            all[at++] = x.closet(what);
        }
        return all;
    }

    private static void nothingChanges() {
        CreaseLines x = dealt(21, 6);
        x.days(20);
        x.sheet(0, 0, 24);
        int[] before = allOf(x);
        x.behind(50, 0);
        x.dulls(1, 1);
        x.doubles(0);
        x.wax(7);
        x.iron(9, 600);
        x.first(9, 0);
        x.becomes(2, 9, 0);
        x.like(0, 0);
        x.fee();
        x.fine(0);
        due.isTrue("nothing changes by thought", java.util.Arrays.equals(before, allOf(x)));
    }
}
