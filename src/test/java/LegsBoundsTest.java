/** The boundary cases of Terms 1 and 2 and of promises 1 to 12, each sentence by itself. */
public final class LegsBoundsTest {
    private static final Due due = new Due();

    public static void main(String[] args) {
        newObject();
        firstValues();
        legs();
        leg();
        told();
        plain();
        takes();
        loses();
        bags();
        worth();
        kinds();
        as();
        turns();
        set();
        feel();
        besideEffects();
        irons();
        rule();
        worn();
        wornWithin();
        rests();
        rain();
        care();
        besideByDraw();
        dullest();
        noLegs();
        draws();
        deal();
        dealRoom();
        seed();
        days();
        lastDay();
        closet();
        due.end();
    }

    private static Run of(String sentence, String lines) {
        return Run.of(due, sentence, lines);
    }

    private static Run busy(String sentence, String lines) {
        return Run.busy(due, sentence, lines);
    }

    // ---- promise 1

    private static void newObject() {
        of("As told; no LEGS.", """
            count 0 -> 0
            told 0 0 -> BAD
            told -1 0 -> BAD
            as 0 0 -> BAD
            turns 0 0 -> BAD
            set 0 1 0 -> BAD
            irons 0 0 -> BAD
            fine 0 -> BAD
            dulls 0 50 -> BAD
            doubles 0 -> BAD
            becomes 0 1 0 -> BAD
            behind 0 3 -> BAD
            lay 0 1 0 -> BAD
            closet 5 -> NONE
            first 1 0 -> NONE
            wax 0 -> 0
            wax 20 -> 0
            iron 30 0 -> 0
            iron 30 1 -> NONE
            why 0 -> NONE
            why 1 -> NONE
            why 2 -> NONE
            textTold 0 0 -> BAD
            fee -> 0
            back -> NO
            check 1 -> NO
            text -> -100
            """);
    }

    private static void firstValues() {
        of("PRESSED, TWOS, SOAKED are 0 at first; THE DAY is 0 at first, 9999 at most.", """
            closet 0 -> 0
            closet 1 -> 0
            closet 2 -> 0
            count 1 -> 0
            """);
        of("RULES: 0 RAIN 0 .. 100 (20 at first), 1 FEEL 0 .. 3 (1), 2 CARE 0 .. 99 (40), 3 HEAT 0 .. 99 (60).", """
            count 2 -> 20
            count 3 -> 1
            count 4 -> 40
            count 5 -> 60
            """);
        of("z is told (1 at first).", "count 9 -> 1");
        of("TRAM 0 .. 99 (how sharp a second crease is; 0 at first), KNEE 0 .. 99 (0 at first), HOLDS 0 .. 9 (how often it was pressed there; 0 at first)", """
            leg 2 3 4 -> 0
            told 0 3 -> 0
            told 0 4 -> 0
            told 0 5 -> 0
            """);
        of("or MISSING (at first)", """
            reads 0 -> NOTHING
            reads 1 -> NOTHING
            reads 2 -> NOTHING
            reads 3 -> NOTHING
            """);
        of("SLOTS 0 .. 4 each hold nothing (at first)", """
            lay 0 0 0 -> 0
            lay 1 0 0 -> 0
            lay 2 0 0 -> 0
            lay 3 0 0 -> 0
            lay 4 0 0 -> 0
            """);
    }

    // ---- legs

    private static void legs() {
        Run run = of("LEGS, 10 at most, numbered from 0", "");
        for (int i = 0; i < 9; i++) {
            run.line("leg 0 0 " + i + " -> " + i);
        }
        run.goes("""
            told 8 2 -> 8
            told 9 2 -> BAD
            leg 1 59 99 -> 9
            told 9 2 -> 99
            told 10 2 -> BAD
            leg 0 0 0 -> FULL
            leg 5 59 99 -> FULL
            count 0 -> 10
            """);
    }

    private static void leg() {
        busy("One more LEG: its number. BAD; FULL.", """
            leg -1 0 0 -> BAD
            leg 6 0 0 -> BAD
            leg MIN 0 0 -> BAD
            leg MAX 0 0 -> BAD
            leg 0 -1 0 -> BAD
            leg 0 60 0 -> BAD
            leg 0 MIN 0 -> BAD
            leg 0 MAX 0 -> BAD
            leg 0 0 -1 -> BAD
            leg 0 0 100 -> BAD
            leg 0 0 MIN -> BAD
            leg 0 0 MAX -> BAD
            leg 6 60 100 -> BAD
            count 0 -> 3
            leg 0 0 0 -> 3
            leg 1 1 1 -> 4
            leg 4 58 98 -> 5
            leg 5 59 99 -> 6
            told 3 0 -> 0
            told 3 1 -> 0
            told 3 2 -> 0
            told 4 0 -> 1
            told 4 1 -> 1
            told 4 2 -> 1
            told 5 0 -> 4
            told 5 1 -> 58
            told 5 2 -> 98
            told 6 0 -> 5
            told 6 1 -> 59
            told 6 2 -> 99
            deal 3 -> 3
            leg 0 0 0 -> FULL
            # of several the one that stands first
            leg 6 0 0 -> BAD
            leg 0 60 0 -> BAD
            leg 0 0 100 -> BAD
            """);
    }

    private static void told() {
        busy("Of a LEG: what 0 KIND, 1 PLACE, 2 SHARP, 3 TRAM, 4 KNEE, 5 HOLDS, 6 what it TAKES, 7 what it LOSES, 8 what it BAGS, 9 WORTH. BAD.", """
            told -1 0 -> BAD
            told MIN 0 -> BAD
            told MAX 0 -> BAD
            told 3 0 -> BAD
            told 2 0 -> 4
            told 0 0 -> 0
            told 1 0 -> 3
            told 1 -1 -> BAD
            told 1 10 -> BAD
            told 1 MIN -> BAD
            told 1 MAX -> BAD
            told -1 10 -> BAD
            told 1 1 -> 20
            told 1 2 -> 60
            told 1 3 -> 0
            told 1 4 -> 33
            told 1 5 -> 0
            told 1 6 -> 70
            told 1 7 -> 1
            told 1 8 -> 5
            told 1 9 -> 120
            """);
    }

    // ---- what kinds take, lose, bag and are worth

    private static void plain() {
        of("held within 0 and 99 (without a TEXT: HEAT, and 3 for each that HOLDS tells, held likewise)", """
            leg 0 0 50 -> 0
            rule 3 0 -> 60
            told 0 6 -> 0
            set 0 5 9 -> 0
            told 0 6 -> 27
            rule 3 71 -> 0
            told 0 6 -> 98
            rule 3 72 -> 71
            told 0 6 -> 99
            rule 3 73 -> 72
            told 0 6 -> 99
            rule 3 99 -> 73
            told 0 6 -> 99
            set 0 5 0 -> 9
            told 0 6 -> 99
            rule 3 98 -> 99
            told 0 6 -> 98
            set 0 5 1 -> 0
            told 0 6 -> 99
            """);
        of("PLAIN press: what press gives, held within 0 and 99", """
            leg 0 0 50 -> 0
            leg 1 0 50 -> 1
            says "press h-50" -> 0
            rule 3 49 -> 60
            told 0 6 -> 0
            told 1 6 -> 10
            rule 3 50 -> 49
            told 0 6 -> 0
            rule 3 51 -> 50
            told 0 6 -> 1
            told 1 6 -> 11
            rule 3 0 -> 51
            told 0 6 -> 0
            says "press h+50" -> 1
            rule 3 48 -> 0
            told 0 6 -> 98
            rule 3 49 -> 48
            told 0 6 -> 99
            rule 3 50 -> 49
            told 0 6 -> 99
            says "press 4096*4096*128" -> 2
            told 0 6 -> 0
            says "press 4096*4096*128-1" -> 3
            told 0 6 -> 99
            """);
    }

    private static void takes() {
        of("WORSTED: as LEG, and 10 (99 at most).", """
            leg 1 0 50 -> 0
            rule 3 0 -> 60
            told 0 6 -> 10
            rule 3 88 -> 0
            told 0 6 -> 98
            rule 3 89 -> 88
            told 0 6 -> 99
            rule 3 90 -> 89
            told 0 6 -> 99
            rule 3 99 -> 90
            told 0 6 -> 99
            """);
        of("WAXED: as WORSTED, and twice HOLDS (99 at most).", """
            leg 3 0 50 -> 0
            rule 3 0 -> 60
            told 0 6 -> 10
            set 0 5 3 -> 0
            # 9 for HOLDS, 10, 6
            told 0 6 -> 25
            rule 3 73 -> 0
            told 0 6 -> 98
            rule 3 74 -> 73
            told 0 6 -> 99
            rule 3 75 -> 74
            told 0 6 -> 99
            set 0 5 9 -> 3
            told 0 6 -> 99
            """);
        of("FLANNEL: half (cut) of as LEG.", """
            leg 2 0 50 -> 0
            rule 3 0 -> 60
            told 0 6 -> 0
            rule 3 1 -> 0
            told 0 6 -> 0
            rule 3 2 -> 1
            told 0 6 -> 1
            rule 3 98 -> 2
            told 0 6 -> 49
            rule 3 99 -> 98
            told 0 6 -> 49
            """);
        of("SLEPT: as FLANNEL, but 30 at least.", """
            leg 4 0 50 -> 0
            rule 3 0 -> 60
            told 0 6 -> 30
            rule 3 59 -> 0
            told 0 6 -> 30
            rule 3 60 -> 59
            told 0 6 -> 30
            rule 3 61 -> 60
            told 0 6 -> 30
            rule 3 62 -> 61
            told 0 6 -> 31
            rule 3 99 -> 62
            told 0 6 -> 49
            """);
        of("TWEED: 20.", """
            leg 5 0 50 -> 0
            told 0 6 -> 20
            rule 3 0 -> 60
            told 0 6 -> 20
            rule 3 99 -> 0
            set 0 5 9 -> 0
            told 0 6 -> 20
            """);
    }

    private static void loses() {
        of("LOSES (SHARP by a day): LEG: 5. WORSTED: as LEG, less 2. WAXED: half (cut) of as WORSTED.", """
            leg 0 0 50 -> 0
            leg 1 0 50 -> 1
            leg 3 0 50 -> 2
            told 0 7 -> 5
            told 1 7 -> 3
            told 2 7 -> 1
            set 0 4 99 -> 0
            set 1 4 99 -> 0
            set 2 4 99 -> 0
            told 0 7 -> 5
            told 1 7 -> 3
            told 2 7 -> 1
            """);
        Run run = of("FLANNEL: as LEG, and a tenth (cut) of KNEE. SLEPT: twice as FLANNEL. TWEED: 1.", """
            leg 2 0 50 -> 0
            leg 4 0 50 -> 1
            leg 5 0 50 -> 2
            told 0 7 -> 5
            told 1 7 -> 10
            told 2 7 -> 1
            """);
        int[][] knees = {{1, 5}, {9, 5}, {10, 6}, {11, 6}, {19, 6}, {20, 7}, {89, 13}, {90, 14}, {98, 14}, {99, 14}};
        int was = 0;
        for (int[] knee : knees) {
            for (int leg = 0; leg < 3; leg++) {
                run.line("set " + leg + " 4 " + knee[0] + " -> " + was);
            }
            was = knee[0];
            run.line("told 0 7 -> " + knee[1]);
            run.line("told 1 7 -> " + 2 * knee[1]);
            run.line("told 2 7 -> 1");
        }
    }

    private static void bags() {
        of("BAGS (KNEE by a day): LEG: 6. WORSTED: as LEG, less 1. WAXED: as WORSTED. FLANNEL: twice as LEG. SLEPT: as FLANNEL, less 4. TWEED: as LEG, less 4.", """
            leg 0 0 50 -> 0
            told 0 8 -> 6
            turns 0 1 -> 0
            told 0 8 -> 5
            turns 0 3 -> 1
            told 0 8 -> 5
            turns 0 2 -> 3
            told 0 8 -> 12
            turns 0 4 -> 2
            told 0 8 -> 8
            turns 0 5 -> 4
            told 0 8 -> 2
            set 0 4 99 -> 0
            told 0 8 -> 2
            """);
    }

    private static void worth() {
        of("WORTH: LEG: SHARP less TRAM (0 at least). WORSTED: as LEG, and HOLDS. WAXED: twice as WORSTED.", """
            leg 0 0 50 -> 0
            leg 1 0 50 -> 1
            leg 3 0 50 -> 2
            told 0 9 -> 50
            told 1 9 -> 50
            told 2 9 -> 100
            set 0 3 49 -> 0
            set 1 3 49 -> 0
            set 2 3 49 -> 0
            told 0 9 -> 1
            told 1 9 -> 1
            told 2 9 -> 2
            set 0 3 50 -> 49
            told 0 9 -> 0
            set 0 3 51 -> 50
            set 1 3 51 -> 49
            set 2 3 51 -> 49
            told 0 9 -> 0
            told 1 9 -> 0
            told 2 9 -> 0
            set 1 5 9 -> 0
            set 2 5 9 -> 0
            told 1 9 -> 9
            told 2 9 -> 18
            set 0 3 99 -> 51
            set 0 2 0 -> 50
            told 0 9 -> 0
            set 2 3 0 -> 51
            set 2 2 99 -> 50
            told 2 9 -> 216
            """);
        of("FLANNEL: 99 less KNEE. SLEPT: half (cut) of as FLANNEL. TWEED: KNEE.", """
            leg 2 0 50 -> 0
            leg 4 0 50 -> 1
            leg 5 0 50 -> 2
            told 0 9 -> 99
            told 1 9 -> 49
            told 2 9 -> 0
            set 0 4 98 -> 0
            set 1 4 97 -> 0
            set 2 4 98 -> 0
            told 0 9 -> 1
            told 1 9 -> 1
            told 2 9 -> 98
            set 1 4 98 -> 97
            told 1 9 -> 0
            set 0 4 99 -> 98
            set 1 4 99 -> 98
            set 2 4 99 -> 98
            told 0 9 -> 0
            told 1 9 -> 0
            told 2 9 -> 99
            """);
    }

    // ---- kinds

    private static void kinds() {
        String[] under = {"0", "0 1", "0 2", "0 1 3", "0 2 4", "0 5"};
        Run run = of("of KINDS: 0 LEG; 1 WORSTED, 2 FLANNEL, 5 TWEED, under LEG; 3 WAXED, under WORSTED; 4 SLEPT, under FLANNEL (all are LEGS)", "");
        for (int kind = 0; kind < 6; kind++) {
            run.line("leg " + kind + " " + (10 + kind) + " 50 -> " + kind);
        }
        for (int leg = 0; leg < 6; leg++) {
            for (int kind = 0; kind < 6; kind++) {
                run.line("as " + leg + " " + kind + " -> " + (under[leg].contains("" + kind) ? "" + (10 + leg) : "KIND"));
            }
        }
    }

    private static void as() {
        busy("A LEG as one of a KIND: PLACE. BAD: leg, kind; KIND: it is not of that KIND, nor of one under it.", """
            as -1 0 -> BAD
            as 3 0 -> BAD
            as MIN 0 -> BAD
            as MAX 0 -> BAD
            as 1 -1 -> BAD
            as 1 6 -> BAD
            as 1 MIN -> BAD
            as 1 MAX -> BAD
            # BAD stands ahead of KIND
            as 3 5 -> BAD
            as 0 0 -> 13
            as 0 1 -> KIND
            as 2 4 -> 30
            as 2 5 -> KIND
            as 2 0 -> 30
            """);
    }

    private static void turns() {
        busy("A LEG is of another KIND from now on: what it was. BAD.", """
            turns -1 0 -> BAD
            turns 3 0 -> BAD
            turns MIN 0 -> BAD
            turns MAX 0 -> BAD
            turns 2 -1 -> BAD
            turns 2 6 -> BAD
            turns 2 MIN -> BAD
            turns 2 MAX -> BAD
            turns 3 6 -> BAD
            told 2 0 -> 4
            turns 2 0 -> 4
            turns 2 1 -> 0
            turns 2 4 -> 1
            turns 2 5 -> 4
            turns 2 5 -> 5
            told 2 0 -> 5
            told 2 1 -> 30
            told 2 2 -> 70
            told 2 3 -> 21
            turns 0 5 -> 0
            """);
    }

    private static void set() {
        String sentence = "PLACE (what 1), SHARP (2), TRAM (3), KNEE (4), HOLDS (5) of a LEG becomes v: what it was. BAD.";
        busy(sentence, """
            set -1 1 0 -> BAD
            set 3 1 0 -> BAD
            set MIN 1 0 -> BAD
            set MAX 1 0 -> BAD
            set 1 0 0 -> BAD
            set 1 6 0 -> BAD
            set 1 -1 0 -> BAD
            set 1 MIN 0 -> BAD
            set 1 MAX 0 -> BAD
            set 3 0 100 -> BAD
            """);
        int[] most = {0, 59, 99, 99, 99, 9};
        int[] was = {0, 20, 60, 0, 33, 0};
        for (int what = 1; what <= 5; what++) {
            String call = "set 1 " + what + " ";
            busy(sentence, "")
                .line(call + "-1 -> BAD")
                .line(call + "MIN -> BAD")
                .line(call + (most[what] + 1) + " -> BAD")
                .line(call + "MAX -> BAD")
                .line(call + "0 -> " + was[what])
                .line("told 1 " + what + " -> 0")
                .line(call + "1 -> 0")
                .line("told 1 " + what + " -> 1")
                .line(call + (most[what] - 1) + " -> 1")
                .line("told 1 " + what + " -> " + (most[what] - 1))
                .line(call + most[what] + " -> " + (most[what] - 1))
                .line("told 1 " + what + " -> " + most[what])
                .line(call + (most[what] + 1) + " -> BAD")
                .line(call + most[what] + " -> " + most[what]);
        }
    }

    // ---- to press

    private static void feel() {
        for (int feel = 0; feel <= 3; feel++) {
            Run run = of("if d is, its sign left out, FEEL or less, it is done along the old crease", """
                leg 0 30 77 -> 0
                set 0 3 9 -> 0
                """).line("rule 1 " + feel + " -> 1").line("keep -> 1");
            for (int d = -3; d <= 3; d++) {
                boolean along = d == 0 || (d > 0 ? d : -d) <= feel;
                run.line("irons 0 " + d + " -> " + (along ? 1 : 0))
                    .line("told 0 1 -> " + (along ? 30 : 30 + d))
                    .line("told 0 2 -> 60")
                    .line("told 0 3 -> " + (along ? 4 : 77))
                    .line("told 0 5 -> 1")
                    .line("closet 0 -> 1")
                    .line("closet 1 -> " + (along ? 0 : 1))
                    .line("back -> 1");
            }
        }
    }

    private static void besideEffects() {
        String along = "TRAM is half (cut) of what it was, HOLDS is 1 more (9 at most).";
        for (int[] tram : new int[][] {{0, 0}, {1, 0}, {2, 1}, {3, 1}, {98, 49}, {99, 49}}) {
            of(along, "leg 0 0 50 -> 0").line("set 0 3 " + tram[0] + " -> 0").line("irons 0 0 -> 1").line("told 0 3 -> " + tram[1]);
        }
        for (int[] holds : new int[][] {{0, 1}, {7, 8}, {8, 9}, {9, 9}}) {
            of(along, "leg 0 0 50 -> 0").line("set 0 5 " + holds[0] + " -> 0").line("irons 0 0 -> 1").line("told 0 5 -> " + holds[1]);
        }
        String beside = "Else TRAM is what SHARP was, PLACE is d farther (round, 0 behind 59), HOLDS is 1, TWOS is 1 more.";
        int[][] places = {{56, 3, 59}, {57, 3, 0}, {58, 3, 1}, {59, 3, 2}, {57, 2, 59}, {58, 2, 0}, {59, 2, 1}, {59, 1, 0}, {58, 1, 59},
            {4, -3, 1}, {3, -3, 0}, {2, -3, 59}, {1, -3, 58}, {0, -3, 57}, {2, -2, 0}, {1, -2, 59}, {1, -1, 0}, {0, -1, 59}};
        for (int[] place : places) {
            of(beside, "rule 1 0 -> 1").line("leg 0 " + place[0] + " 50 -> 0").line("irons 0 " + place[1] + " -> 0").line("told 0 1 -> " + place[2]);
        }
        for (int sharp : new int[] {0, 1, 98, 99}) {
            of(beside, "").line("leg 0 0 " + sharp + " -> 0").goes("""
                set 0 5 9 -> 0
                irons 0 2 -> 0
                told 0 5 -> 1
                closet 1 -> 1
                """).line("told 0 3 -> " + sharp).line("closet 4 -> " + (sharp > 0 ? 1 : 0));
        }
        String both = "In both ways SHARP is what it TAKES (as it is ahead of this), KNEE is half (cut), PRESSED is 1 more.";
        for (int[] knee : new int[][] {{0, 0}, {1, 0}, {2, 1}, {99, 49}}) {
            of(both, "leg 0 0 50 -> 0").line("set 0 4 " + knee[0] + " -> 0").line("irons 0 0 -> 1").line("told 0 4 -> " + knee[1])
                .line("set 0 4 " + knee[0] + " -> " + knee[1]).line("irons 0 3 -> 0").line("told 0 4 -> " + knee[1]).line("closet 0 -> 2");
        }
        of(both, """
            leg 0 0 50 -> 0
            set 0 5 8 -> 0
            irons 0 3 -> 0
            # by HOLDS 8, not 1
            told 0 2 -> 84
            irons 0 0 -> 1
            told 0 2 -> 63
            says "press k*10+t" -> 0
            set 0 4 3 -> 0
            set 0 3 41 -> 25
            irons 0 0 -> 1
            told 0 2 -> 71
            """);
    }

    private static void irons() {
        busy("A LEG is PRESSED now, BESIDE by d (-3 .. 3): 1 if it is done along the old crease, else 0. BAD.", """
            irons -1 0 -> BAD
            irons 3 0 -> BAD
            irons MIN 0 -> BAD
            irons MAX 0 -> BAD
            irons 2 -4 -> BAD
            irons 2 4 -> BAD
            irons 2 MIN -> BAD
            irons 2 MAX -> BAD
            irons 3 4 -> BAD
            closet 0 -> 1
            irons 2 -3 -> 0
            told 2 1 -> 27
            irons 2 -2 -> 0
            told 2 1 -> 25
            irons 2 -1 -> 1
            irons 2 0 -> 1
            irons 2 1 -> 1
            told 2 1 -> 25
            irons 2 2 -> 0
            irons 0 3 -> 0
            told 2 1 -> 27
            closet 0 -> 8
            closet 1 -> 5
            """);
    }

    private static void rule() {
        String sentence = "A RULE becomes v: what it was. BAD.";
        busy(sentence, """
            rule -1 0 -> BAD
            rule 4 0 -> BAD
            rule MIN 0 -> BAD
            rule MAX 0 -> BAD
            """);
        int[] most = {100, 3, 99, 99};
        int[] was = {35, 1, 40, 60};
        for (int what = 0; what < 4; what++) {
            String call = "rule " + what + " ";
            busy(sentence, "")
                .line(call + "-1 -> BAD")
                .line(call + "MIN -> BAD")
                .line(call + (most[what] + 1) + " -> BAD")
                .line(call + "MAX -> BAD")
                .line(call + "0 -> " + was[what])
                .line("count " + (2 + what) + " -> 0")
                .line(call + "1 -> 0")
                .line(call + (most[what] - 1) + " -> 1")
                .line(call + most[what] + " -> " + (most[what] - 1))
                .line("count " + (2 + what) + " -> " + most[what])
                .line(call + (most[what] + 1) + " -> BAD")
                .line(call + most[what] + " -> " + most[what]);
        }
    }

    // ---- a day

    private static void worn() {
        of("the LEG that is the rest of THE DAY by how many there are is WORN (if there are any)", """
            rule 0 0 -> 20
            rule 2 0 -> 40
            leg 0 0 90 -> 0
            leg 0 0 90 -> 1
            leg 0 0 90 -> 2
            days 1 -> 0
            told 0 2 -> 85
            days 1 -> 0
            told 1 2 -> 85
            days 1 -> 0
            told 2 2 -> 85
            # THE DAY is 3: the first again
            days 1 -> 0
            told 0 2 -> 80
            told 1 2 -> 85
            # THE DAY is 4, and there are four: the first again
            leg 0 0 90 -> 3
            days 1 -> 0
            told 0 2 -> 75
            told 1 2 -> 85
            told 3 2 -> 90
            """);
    }

    private static void wornWithin() {
        String sentence = "SHARP is less by what it LOSES (0 at least), KNEE is more by what it BAGS (99 at most; both as they are ahead of this)";
        int[][] sharps = {{0, 4, 0}, {0, 5, 0}, {0, 6, 1}, {0, 0, 0}, {1, 2, 0}, {1, 3, 0}, {1, 4, 1}, {3, 0, 0}, {3, 1, 0}, {3, 2, 1}, {5, 0, 0}, {5, 1, 0}, {5, 2, 1},
            {2, 4, 0}, {2, 5, 0}, {2, 6, 1}, {4, 9, 0}, {4, 10, 0}, {4, 11, 1}};
        for (int[] sharp : sharps) {
            of(sentence, "rule 0 0 -> 20\nrule 2 0 -> 40").line("leg " + sharp[0] + " 0 " + sharp[1] + " -> 0").line("days 1 -> 0").line("told 0 2 -> " + sharp[2]);
        }
        int[][] knees = {{0, 92, 98}, {0, 93, 99}, {0, 94, 99}, {0, 99, 99}, {1, 93, 98}, {1, 94, 99}, {1, 95, 99}, {2, 86, 98}, {2, 87, 99}, {2, 88, 99},
            {4, 90, 98}, {4, 91, 99}, {4, 92, 99}, {5, 96, 98}, {5, 97, 99}, {5, 98, 99}};
        for (int[] knee : knees) {
            of(sentence, "rule 0 0 -> 20\nrule 2 0 -> 40").line("leg " + knee[0] + " 0 99 -> 0").line("set 0 4 " + knee[1] + " -> 0").line("days 1 -> 0").line("told 0 4 -> " + knee[2]);
        }
        // by KNEE ahead of the day FLANNEL loses 5, by KNEE behind it 6
        of(sentence, """
            rule 0 0 -> 20
            rule 2 0 -> 40
            leg 2 0 50 -> 0
            set 0 4 9 -> 0
            days 1 -> 0
            told 0 2 -> 45
            told 0 4 -> 21
            """);
    }

    private static void rests() {
        of("KNEE of all others is 2 less (0 at least)", """
            rule 0 0 -> 20
            rule 2 0 -> 40
            leg 0 0 50 -> 0
            leg 1 0 50 -> 1
            leg 2 0 50 -> 2
            leg 3 0 50 -> 3
            leg 4 0 50 -> 4
            leg 5 0 50 -> 5
            set 2 4 1 -> 0
            set 3 4 2 -> 0
            set 4 4 3 -> 0
            set 5 4 99 -> 0
            days 1 -> 0
            told 0 4 -> 6
            told 1 4 -> 0
            told 2 4 -> 0
            told 3 4 -> 0
            told 4 4 -> 1
            told 5 4 -> 97
            told 1 2 -> 50
            told 5 2 -> 50
            """);
    }

    private static void rain() {
        String sentence = "A draw; if its rest by 100 is below RAIN, and there are LEGS: SHARP and TRAM of the one WORN are half (cut) of what they were, SOAKED is 1 more.";
        int[][] rests = {{0, 0, 0}, {0, 1, 1}, {19, 18, 0}, {19, 19, 0}, {19, 20, 1}, {98, 98, 0}, {98, 99, 1}, {99, 99, 0}, {99, 100, 1}, {0, 100, 1}};
        for (int[] rest : rests) {
            int z = Lots.seed(new int[] {100}, rest[0]);
            of(sentence, """
                rule 2 0 -> 40
                leg 0 0 50 -> 0
                leg 0 0 50 -> 1
                set 0 3 31 -> 0
                set 1 3 31 -> 0
                """).line("rule 0 " + rest[1] + " -> 20").line("seed " + z + " -> 1").line("days 1 -> 0")
                .line("told 0 2 -> " + (rest[2] == 1 ? 22 : 45)).line("told 0 3 -> " + (rest[2] == 1 ? 15 : 31)).line("closet 2 -> " + rest[2])
                .line("told 1 2 -> 50").line("told 1 3 -> 31").line("count 9 -> " + Lots.behind(z, 1));
        }
        for (int[] half : new int[][] {{5, 0, 0}, {6, 0, 1}, {7, 1, 2}, {8, 1, 3}, {99, 47, 99}}) {
            of(sentence, "rule 2 0 -> 40\nrule 0 100 -> 20").line("leg 0 0 " + half[0] + " -> 0").line("set 0 3 " + half[2] + " -> 0").line("days 1 -> 0")
                .line("told 0 2 -> " + half[1]).line("told 0 3 -> " + half[2] / 2);
        }
    }

    private static void care() {
        String sentence = "If there are LEGS, and SHARP of the DULLEST is below CARE, a draw: it is PRESSED, BESIDE by its rest by 7, less 3.";
        int[][] cares = {{40, 44, 1}, {40, 45, 0}, {40, 46, 0}, {0, 0, 0}, {0, 5, 0}, {1, 5, 1}, {1, 6, 0}, {99, 99, 1}, {94, 99, 0}, {95, 99, 1}};
        for (int[] care : cares) {
            Run run = of(sentence, "rule 0 0 -> 20\nseed 7 -> 1").line("rule 2 " + care[0] + " -> 40").line("leg 0 0 " + care[1] + " -> 0")
                .line("days 1 -> " + care[2]).line("closet 0 -> " + care[2]).line("count 9 -> " + Lots.behind(7, 1 + care[2]));
            run.line("told 0 2 -> " + (care[2] == 1 ? 60 : Math.max(0, care[1] - 5)));
        }
        // wetness comes ahead of care: 45 is half of 90 less 5, cut
        of(sentence, """
            rule 0 100 -> 20
            rule 2 43 -> 40
            leg 0 0 90 -> 0
            days 1 -> 1
            """);
        of(sentence, """
            rule 0 100 -> 20
            rule 2 42 -> 40
            leg 0 0 90 -> 0
            days 1 -> 0
            """);
    }

    private static void besideByDraw() {
        for (int rest = 0; rest < 7; rest++) {
            int z = Lots.seed(new int[] {1, 7}, 0, rest);
            int d = rest - 3;
            boolean along = d >= -1 && d <= 1;
            of("BESIDE by its rest by 7, less 3", """
                rule 0 0 -> 20
                leg 0 30 20 -> 0
                """).line("seed " + z + " -> 1").line("days 1 -> 1").line("told 0 1 -> " + (along ? 30 : 30 + d))
                .line("told 0 3 -> " + (along ? 0 : 15)).line("closet 1 -> " + (along ? 0 : 1)).line("count 9 -> " + Lots.behind(z, 2));
        }
    }

    private static void dullest() {
        of("DULLEST: the one whose SHARP is least; of several the least.", """
            leg 0 0 50 -> 0
            closet 5 -> 0
            leg 0 0 50 -> 1
            closet 5 -> 0
            leg 0 0 49 -> 2
            closet 5 -> 2
            leg 0 0 49 -> 3
            closet 5 -> 2
            set 1 2 48 -> 50
            closet 5 -> 1
            set 3 2 0 -> 49
            closet 5 -> 3
            set 0 2 0 -> 50
            closet 5 -> 0
            """);
        // two are as dull: the least is pressed, and one of them alone
        of("DULLEST: the one whose SHARP is least; of several the least.", """
            rule 0 0 -> 20
            leg 0 0 99 -> 0
            leg 0 0 39 -> 1
            leg 0 0 39 -> 2
            days 1 -> 1
            told 1 2 -> 60
            told 2 2 -> 39
            """);
    }

    private static void noLegs() {
        of("(if there are any)", """
            rule 0 100 -> 20
            rule 2 99 -> 40
            days 1 -> 0
            count 1 -> 1
            closet 2 -> 0
            """).line("count 9 -> " + Lots.behind(1, 1)).line("days 100 -> 0").line("count 9 -> " + Lots.behind(1, 101)).line("count 1 -> 101")
            .line("leg 0 0 0 -> 0").line("days 1 -> 1").line("closet 2 -> 1").line("count 9 -> " + Lots.behind(1, 103));
    }

    private static void draws() {
        for (int z : new int[] {0, -1, Integer.MIN_VALUE, Integer.MAX_VALUE, 255, 256, -256, -12345}) {
            Lots lots = new Lots(z);
            int kind = lots.draw() % 6;
            int place = lots.draw() % 60;
            int sharp = lots.draw() % 100;
            of("A draw: z becomes z * 1103515245 + 12345 (an int)", "").line("seed " + z + " -> 1").line("deal 1 -> 1")
                .line("told 0 0 -> " + kind).line("told 0 1 -> " + place).line("told 0 2 -> " + sharp).line("count 9 -> " + lots.z());
        }
        int[][] edges = {{0, 0, 0}, {5, 59, 99}, {0, 59, 0}, {5, 0, 99}};
        for (int[] edge : edges) {
            int z = Lots.seed(new int[] {6, 60, 100}, edge);
            of("LEGS that are drawn: KIND the rest of a draw by 6, PLACE that of one more by 60, SHARP that of one more by 100.", "")
                .line("seed " + z + " -> 1").line("deal 1 -> 1").line("told 0 0 -> " + edge[0]).line("told 0 1 -> " + edge[1]).line("told 0 2 -> " + edge[2])
                .line("told 0 3 -> 0").line("told 0 4 -> 0").line("told 0 5 -> 0");
        }
    }

    // ---- lots, days, closet

    private static void deal() {
        String sentence = "LEGS are drawn, n (1 .. 10) of them, as many as there is room for (no draws for others): how many came. BAD.";
        busy(sentence, """
            deal 0 -> BAD
            deal -1 -> BAD
            deal 11 -> BAD
            deal MIN -> BAD
            deal MAX -> BAD
            count 9 -> 1
            deal 10 -> 7
            count 0 -> 10
            deal 11 -> BAD
            deal 0 -> BAD
            """).line("count 9 -> " + Lots.behind(1, 21));
        for (int n : new int[] {1, 2, 9, 10}) {
            of(sentence, "").line("deal " + n + " -> " + n).line("count 0 -> " + n).line("count 9 -> " + Lots.behind(1, 3 * n));
        }
    }

    private static void dealRoom() {
        int[][] rooms = {{7, 2, 2}, {7, 3, 3}, {7, 4, 3}, {8, 2, 2}, {8, 3, 2}, {9, 1, 1}, {9, 2, 1}, {9, 10, 1}, {10, 1, 0}, {10, 10, 0}};
        for (int[] room : rooms) {
            of("as many as there is room for (no draws for others)", "").line("deal " + room[0] + " -> " + room[0]).line("seed 77 -> " + Lots.behind(1, 3 * room[0]))
                .line("deal " + room[1] + " -> " + room[2]).line("count 0 -> " + (room[0] + room[2])).line("count 9 -> " + Lots.behind(77, 3 * room[2]));
        }
    }

    private static void seed() {
        busy("z becomes v: what it was.", """
            seed MIN -> 1
            count 9 -> MIN
            seed MAX -> MIN
            count 9 -> MAX
            seed 0 -> MAX
            seed -1 -> 0
            seed NONE -> -1
            count 9 -> NONE
            """).line("seed 1 -> -1000000005");
    }

    private static void days() {
        String sentence = "n (1 .. 100) DAYS (no more than up to 9999): by how much PRESSED is more. BAD.";
        busy(sentence, """
            days 0 -> BAD
            days -1 -> BAD
            days 101 -> BAD
            days MIN -> BAD
            days MAX -> BAD
            count 1 -> 0
            """);
        for (int n : new int[] {1, 2, 99, 100}) {
            of(sentence, "rule 2 99 -> 40\nleg 0 0 50 -> 0\nirons 0 0 -> 1").line("days " + n + " -> " + n).line("count 1 -> " + n).line("closet 0 -> " + (n + 1));
        }
    }

    /** A run of one leg that is pressed on each day, up to this day. */
    private static Run upTo(int day) {
        Run run = of("PRESSED, TWOS, SOAKED are 0 at first; THE DAY is 0 at first, 9999 at most.", "rule 2 99 -> 40\nrule 0 0 -> 20\nleg 0 0 50 -> 0");
        for (int i = 0; i < day / 100; i++) {
            run.line("days 100 -> 100");
        }
        if (day % 100 > 0) {
            run.line("days " + day % 100 + " -> " + day % 100);
        }
        return run.line("count 1 -> " + day);
    }

    private static void lastDay() {
        upTo(9997).goes("""
            days 1 -> 1
            count 1 -> 9998
            days 1 -> 1
            count 1 -> 9999
            days 1 -> 0
            count 1 -> 9999
            closet 0 -> 9999
            days 101 -> BAD
            days 0 -> BAD
            """).line("count 9 -> " + Lots.behind(1, 2 * 9999));
        upTo(9997).line("days 2 -> 2").line("count 1 -> 9999");
        upTo(9997).line("days 3 -> 2").line("count 1 -> 9999").line("days 100 -> 0").line("count 9 -> " + Lots.behind(1, 2 * 9999));
        upTo(9899).line("days 100 -> 100").line("count 1 -> 9999");
        upTo(9900).line("days 100 -> 99").line("count 1 -> 9999");
    }

    private static void closet() {
        String sentence = "What is 0 PRESSED, 1 TWOS, 2 SOAKED, 3 SHARP of all, together, 4 LEGS with TRAM above 0, as a set, 5 DULLEST. BAD; NONE: (what 5) there are no LEGS.";
        busy(sentence, """
            closet -1 -> BAD
            closet 6 -> BAD
            closet MIN -> BAD
            closet MAX -> BAD
            closet 0 -> 1
            closet 1 -> 1
            closet 2 -> 0
            closet 3 -> 190
            closet 4 -> 5
            closet 5 -> 0
            """);
        of(sentence, """
            closet 5 -> NONE
            closet 4 -> 0
            closet 3 -> 0
            closet 6 -> BAD
            leg 0 0 0 -> 0
            closet 5 -> 0
            closet 3 -> 0
            closet 4 -> 0
            set 0 3 1 -> 0
            closet 4 -> 1
            """);
        Run all = of(sentence, "");
        for (int i = 0; i < 10; i++) {
            all.line("leg 0 0 99 -> " + i).line("set " + i + " 3 1 -> 0");
        }
        all.goes("""
            closet 3 -> 990
            closet 4 -> 1023
            set 0 3 0 -> 1
            closet 4 -> 1022
            set 9 3 0 -> 1
            closet 4 -> 510
            """);
    }
}
