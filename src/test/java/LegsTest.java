/** Promises 1 to 12: a new object, legs, rules, lots, days. */
public final class LegsTest {
    private static final int BAD = CreaseLines.BAD;
    private static final Due due = new Due();

    public static void main(String[] args) {
        newObject();
        leg();
        told();
        as();
        turns();
        set();
        irons();
        rule();
        deal();
        seed();
        days();
        lastDay();
        closet();
        due.end();
    }

    /** One leg of each kind, its number being its kind. */
    static CreaseLines allKinds() {
        CreaseLines x = new CreaseLines();
        for (int kind = 0; kind < 6; kind++) {
            x.leg(kind, 10 * kind, 50);
        }
        return x;
    }

    private static void newObject() {
        CreaseLines x = new CreaseLines();
        int[] want = {0, 0, 20, 1, 40, 60, 0, 0, 0, 1};
        for (int what = 0; what < want.length; what++) {
            due.is("new: count(" + what + ")", x.count(what), want[what]);
        }
        for (int what = 0; what < 5; what++) {
            due.is("new: closet(" + what + ")", x.closet(what), 0);
        }
        due.is("new: back()", x.back(), CreaseLines.NO);
        for (int i = 0; i < 4; i++) {
            due.is("new: reads", x.reads(i), CreaseLines.NOTHING);
        }
        for (int i = 0; i < 5; i++) {
            due.is("new: item", x.item(i, 0), CreaseLines.NOTHING);
        }
        for (int key = 0; key < 3; key++) {
            due.is("new: why", x.why(key), CreaseLines.NONE);
        }
        CreaseLines other = new CreaseLines();
        x.leg(0, 0, 0);
        due.is("objects are apart", other.count(0), 0);
    }

    private static void leg() {
        CreaseLines x = new CreaseLines();
        int[][] wrong = {{-1, 0, 0}, {6, 0, 0}, {0, -1, 0}, {0, 60, 0}, {0, 0, -1}, {0, 0, 100}};
        for (int[] w : wrong) {
            due.is("leg, wrong", x.leg(w[0], w[1], w[2]), BAD);
        }
        due.is("none came", x.count(0), 0);
        for (int i = 0; i < 10; i++) {
            due.is("leg", x.leg(i % 6, 59 - i, 99 - i), i);
            due.leg(x, i, i % 6, 59 - i, 99 - i, 0, 0, 0);
        }
        due.is("leg, eleventh", x.leg(0, 0, 0), CreaseLines.FULL);
        due.is("leg, BAD ahead of FULL", x.leg(6, 0, 0), BAD);
        due.is("leg, ten", x.count(0), 10);
    }

    private static void told() {
        CreaseLines x = allKinds();
        for (int leg = 0; leg < 6; leg++) {
            x.set(leg, 3, 11);
            x.set(leg, 4, 37);
            x.set(leg, 5, 7);
        }
        // HEAT 60 and 3 for each of 7: PLAIN is 81
        int[][] want = {{81, 5, 6, 39}, {91, 3, 5, 46}, {40, 8, 12, 62}, {99, 1, 5, 92}, {40, 16, 8, 31}, {20, 1, 2, 37}};
        for (int leg = 0; leg < 6; leg++) {
            for (int what = 6; what < 10; what++) {
                due.is("told(" + leg + ", " + what + ")", x.told(leg, what), want[leg][what - 6]);
            }
        }
        x.rule(3, 99);
        due.is("PLAIN is 99 at most", x.told(0, 6), 99);
        due.is("WORSTED is 99 at most", x.told(1, 6), 99);
        due.is("half of 99", x.told(2, 6), 49);
        due.is("SLEPT above 30", x.told(4, 6), 49);
        x.rule(3, 0);
        x.set(3, 5, 9);
        due.is("WAXED: 27 and 10 and 18", x.told(3, 6), 55);
        x.set(0, 3, 99);
        due.is("WORTH is 0 at least", x.told(0, 9), 0);
        x.set(1, 3, 99);
        due.is("WORSTED: HOLDS above 0", x.told(1, 9), 7);
        x.set(4, 4, 99);
        due.is("SLEPT: twice 14", x.told(4, 7), 28);
        due.is("told, leg -1", x.told(-1, 0), BAD);
        due.is("told, leg 6", x.told(6, 0), BAD);
        due.is("told, what -1", x.told(0, -1), BAD);
        due.is("told, what 10", x.told(0, 10), BAD);
    }

    private static void as() {
        CreaseLines x = allKinds();
        boolean[][] under = {
            {true, false, false, false, false, false}, {true, true, false, false, false, false},
            {true, false, true, false, false, false}, {true, true, false, true, false, false},
            {true, false, true, false, true, false}, {true, false, false, false, false, true}};
        for (int leg = 0; leg < 6; leg++) {
            for (int kind = 0; kind < 6; kind++) {
                due.is("as(" + leg + ", " + kind + ")", x.as(leg, kind), under[leg][kind] ? 10 * leg : CreaseLines.KIND);
            }
        }
        due.is("as, leg", x.as(6, 0), BAD);
        due.is("as, leg -1", x.as(-1, 0), BAD);
        due.is("as, kind", x.as(0, 6), BAD);
        due.is("as, kind -1", x.as(0, -1), BAD);
    }

    private static void turns() {
        CreaseLines x = allKinds();
        x.set(0, 4, 30);
        due.is("turns", x.turns(0, 4), 0);
        due.leg(x, 0, 4, 0, 50, 0, 30, 0);
        due.is("turns to the same", x.turns(0, 4), 4);
        due.is("as SLEPT now", x.as(0, 2), 0);
        due.is("LOSES as SLEPT", x.told(0, 7), 16);
        due.is("turns, kind 6", x.turns(0, 6), BAD);
        due.is("turns, kind -1", x.turns(0, -1), BAD);
        due.is("turns, leg 6", x.turns(6, 0), BAD);
        due.is("turns, leg -1", x.turns(-1, 0), BAD);
        due.is("as it was", x.told(0, 0), 4);
    }

    private static void set() {
        CreaseLines x = allKinds();
        int[] most = {0, 59, 99, 99, 99, 9};
        int[] was = {0, 10, 50, 0, 0, 0};
        for (int what = 1; what <= 5; what++) {
            due.is("set, too much", x.set(1, what, most[what] + 1), BAD);
            due.is("set, too little", x.set(1, what, -1), BAD);
            due.is("set(1, " + what + ")", x.set(1, what, most[what]), was[what]);
            due.is("is set", x.told(1, what), most[what]);
            due.is("set back to 0", x.set(1, what, 0), most[what]);
        }
        due.leg(x, 1, 1, 0, 0, 0, 0, 0);
        due.leg(x, 2, 2, 20, 50, 0, 0, 0);
        due.is("set, KIND", x.set(1, 0, 0), BAD);
        due.is("set, what 6", x.set(1, 6, 0), BAD);
        due.is("set, no such leg", x.set(6, 1, 0), BAD);
        due.is("set, leg -1", x.set(-1, 1, 0), BAD);
    }

    private static void irons() {
        CreaseLines x = new CreaseLines();
        x.leg(0, 1, 33);
        x.set(0, 3, 9);
        x.set(0, 4, 7);
        x.set(0, 5, 9);
        due.is("along", x.irons(0, -1), 1);
        due.leg(x, 0, 0, 1, 87, 4, 3, 9);
        due.is("no TWOS", x.closet(1), 0);
        due.is("beside, to the left, round", x.irons(0, -2), 0);
        due.leg(x, 0, 0, 59, 87, 87, 1, 1);
        due.is("one of TWOS", x.closet(1), 1);
        due.is("beside, to the right, round", x.irons(0, 3), 0);
        // TAKES is as it was ahead: HOLDS was 1
        due.leg(x, 0, 0, 2, 63, 87, 0, 1);
        due.is("PRESSED", x.closet(0), 3);
        x.rule(1, 3);
        due.is("FEEL 3", x.irons(0, -3), 1);
        due.leg(x, 0, 0, 2, 63, 43, 0, 2);
        x.rule(1, 0);
        due.is("FEEL 0", x.irons(0, 1), 0);
        due.is("FEEL 0, by 0", x.irons(0, 0), 1);
        due.is("z stays", x.count(9), 1);
        due.is("irons, d 4", x.irons(0, 4), BAD);
        due.is("irons, d -4", x.irons(0, -4), BAD);
        due.is("irons, d least", x.irons(0, Integer.MIN_VALUE), BAD);
        due.is("irons, leg", x.irons(1, 0), BAD);
        due.is("irons, leg -1", x.irons(-1, 0), BAD);
        due.is("PRESSED, at the end", x.closet(0), 6);
    }

    private static void rule() {
        CreaseLines x = new CreaseLines();
        int[] first = {20, 1, 40, 60};
        int[] most = {100, 3, 99, 99};
        for (int what = 0; what < 4; what++) {
            due.is("rule, too much", x.rule(what, most[what] + 1), BAD);
            due.is("rule, too little", x.rule(what, -1), BAD);
            due.is("rule", x.rule(what, most[what]), first[what]);
            due.is("rule told", x.count(2 + what), most[what]);
            due.is("rule 0", x.rule(what, 0), most[what]);
        }
        due.is("rule, what 4", x.rule(4, 0), BAD);
        due.is("rule, what -1", x.rule(-1, 0), BAD);
    }

    private static int drawn(int[] z) {
        z[0] = z[0] * 1103515245 + 12345;
        return z[0] >>> 8;
    }

    private static void deal() {
        CreaseLines x = new CreaseLines();
        due.is("deal 0", x.deal(0), BAD);
        due.is("deal 11", x.deal(11), BAD);
        due.is("z stays", x.count(9), 1);
        int[] z = {1};
        due.is("deal", x.deal(4), 4);
        for (int i = 0; i < 4; i++) {
            int kind = drawn(z) % 6;
            int place = drawn(z) % 60;
            int sharp = drawn(z) % 100;
            due.leg(x, i, kind, place, sharp, 0, 0, 0);
        }
        due.is("z goes on", x.count(9), z[0]);
        due.is("room for six", x.deal(10), 6);
        for (int i = 0; i < 18; i++) {
            drawn(z);
        }
        due.is("no draws for others", x.count(9), z[0]);
        due.is("room for none", x.deal(1), 0);
        due.is("no draws at all", x.count(9), z[0]);
    }

    private static void seed() {
        CreaseLines x = new CreaseLines();
        due.is("seed", x.seed(Integer.MIN_VALUE), 1);
        due.is("seed again", x.seed(-5), Integer.MIN_VALUE);
        due.is("z", x.count(9), -5);
        x.days(1);
        due.is("one draw", x.count(9), -5 * 1103515245 + 12345);
    }

    private static void days() {
        CreaseLines x = new CreaseLines();
        x.rule(0, 0);
        x.rule(2, 0);
        x.leg(2, 0, 50);
        x.leg(0, 0, 3);
        x.set(0, 4, 95);
        x.set(1, 4, 1);
        due.is("a day", x.days(1), 0);
        // FLANNEL with KNEE 95 loses 5 and 9; the other one rests
        due.leg(x, 0, 2, 0, 36, 0, 99, 0);
        due.leg(x, 1, 0, 0, 3, 0, 0, 0);
        due.is("a day, the next one is worn", x.days(1), 0);
        due.leg(x, 0, 2, 0, 36, 0, 97, 0);
        due.leg(x, 1, 0, 0, 0, 0, 6, 0);
        due.is("THE DAY", x.count(1), 2);
        rain();
        care();
        due.is("days 0", x.days(0), BAD);
        due.is("days 101", x.days(101), BAD);
        due.is("days -1", x.days(-1), BAD);
        CreaseLines none = new CreaseLines();
        none.rule(0, 100);
        due.is("no legs", none.days(100), 0);
        due.is("no legs: THE DAY", none.count(1), 100);
        due.is("no legs: none SOAKED", none.closet(2), 0);
        int[] z = {1};
        for (int i = 0; i < 100; i++) {
            drawn(z);
        }
        due.is("no legs: a draw a day", none.count(9), z[0]);
    }

    private static void rain() {
        for (int v = 1; v < 200; v += 7) {
            int rest = drawn(new int[] {v}) % 100;
            for (int most = rest; most <= rest + 1; most++) {
                CreaseLines x = new CreaseLines();
                x.rule(2, 0);
                x.rule(0, most);
                x.leg(0, 0, 50);
                x.set(0, 3, 31);
                x.seed(v);
                x.days(1);
                boolean rains = rest < most;
                due.leg(x, 0, 0, 0, rains ? 22 : 45, rains ? 15 : 31, 6, 0);
                due.is("SOAKED", x.closet(2), rains ? 1 : 0);
            }
        }
    }

    private static void care() {
        for (int v = 0; v < 30; v++) {
            CreaseLines x = new CreaseLines();
            x.rule(0, 0);
            x.leg(5, 0, 41);
            x.leg(5, 30, 39);
            x.leg(5, 30, 39);
            x.seed(v);
            int[] z = {v};
            drawn(z);
            int beside = drawn(z) % 7 - 3;
            boolean along = beside >= -1 && beside <= 1;
            due.is("one is pressed", x.days(1), 1);
            due.leg(x, 0, 5, 0, 40, 0, 2, 0);
            due.leg(x, 1, 5, along ? 30 : 30 + beside, 20, along ? 0 : 39, 0, 1);
            due.leg(x, 2, 5, 30, 39, 0, 0, 0);
            due.is("two draws", x.count(9), z[0]);
            due.is("TWOS", x.closet(1), along ? 0 : 1);
        }
        CreaseLines x = new CreaseLines();
        x.rule(0, 0);
        x.leg(5, 0, 41);
        due.is("at CARE none is pressed", x.days(1), 0);
        due.is("below CARE one is", x.days(1), 1);
    }

    private static void lastDay() {
        CreaseLines x = new CreaseLines();
        x.leg(0, 0, 0);
        x.rule(2, 99);
        for (int i = 0; i < 99; i++) {
            due.is("a hundred pressed", x.days(100), 100);
        }
        due.is("THE DAY", x.count(1), 9900);
        due.is("no more than up to 9999", x.days(100), 99);
        due.is("THE DAY, at most", x.count(1), 9999);
        int z = x.count(9);
        due.is("no day more", x.days(5), 0);
        due.is("no draw more", x.count(9), z);
        due.is("only thought: no bound", x.behind(5, 0), x.closet(0) + 5);
    }

    private static void closet() {
        CreaseLines x = new CreaseLines();
        due.is("no legs: DULLEST", x.closet(5), CreaseLines.NONE);
        x.leg(0, 0, 30);
        x.leg(0, 0, 20);
        x.leg(0, 0, 20);
        x.leg(0, 0, 25);
        due.is("of several the least", x.closet(5), 1);
        due.is("together", x.closet(3), 95);
        x.set(0, 3, 1);
        x.set(3, 3, 99);
        due.is("a set", x.closet(4), 9);
        x.irons(2, 3);
        due.is("TWOS", x.closet(1), 1);
        due.is("PRESSED", x.closet(0), 1);
        due.is("closet(6)", x.closet(6), BAD);
        due.is("closet(-1)", x.closet(-1), BAD);
    }
}
