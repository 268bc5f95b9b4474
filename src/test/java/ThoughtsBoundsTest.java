/** The boundary cases of Terms 3 and of promises 13 to 22, each sentence by itself. */
public final class ThoughtsBoundsTest {
    private static final Due due = new Due();
    /** No rain, and none is pressed: legs only lose. */
    private static final String STILL = "rule 0 0 -> 20\nrule 2 0 -> 40";

    public static void main(String[] args) {
        withoutTheBound();
        behind();
        dulls();
        dullsLate();
        doubles();
        doublesLate();
        wax();
        waxCare();
        waxAll();
        waxFewest();
        waxLeast();
        iron();
        ironLeast();
        first();
        firstLeast();
        firstAlong();
        becomes();
        becomesLeast();
        like();
        likeLeast();
        likeNumbers();
        likeDays();
        likeTen();
        fee();
        fine();
        due.end();
    }

    private static Run of(String sentence, String lines) {
        return Run.of(due, sentence, lines);
    }

    private static Run busy(String sentence, String lines) {
        return Run.busy(due, sentence, lines);
    }

    private static void withoutTheBound() {
        Run run = of("(All that follows is only thought, z as it is, without the bound of THE DAY: nothing changes.)", STILL);
        for (int i = 0; i < 99; i++) {
            run.line("days 100 -> 0");
        }
        run.goes("""
            days 99 -> 0
            count 1 -> 9999
            leg 5 0 90 -> 0
            leg 5 0 90 -> 1
            days 1 -> 0
            told 1 2 -> 90
            # THE DAY 9999 is odd: the second one is worn, behind it the first one
            behind 0 4 -> 90
            behind 1 3 -> 90
            behind 1 4 -> 89
            behind 2 3 -> 89
            behind 2 4 -> 89
            behind 100 3 -> 40
            dulls 1 90 -> 1
            dulls 0 90 -> 2
            dulls 0 1 -> 180
            rule 2 90 -> 0
            iron 1 110 -> 0
            first 1 1 -> 110
            # pressed to 60 as a LEG, to 70 as a WORSTED one
            becomes 1 1 0 -> 1
            becomes 1 1 1 -> 160
            keep -> 2
            check 30 -> 0
            tell 0 -> 1
            check 30 -> 1
            """);
    }

    // ---- promise 13

    private static void behind() {
        String sentence = "what 0 PRESSED, 1 TWOS, 2 how many have TRAM above 0; 3 and k: SHARP of LEG k. BAD: 3 and k of no LEG, too.";
        busy(sentence, """
            behind -1 0 -> BAD
            behind 101 0 -> BAD
            behind MIN 0 -> BAD
            behind MAX 0 -> BAD
            behind 0 -1 -> BAD
            behind 0 MIN -> BAD
            behind 0 MAX -> BAD
            behind 0 6 -> BAD
            behind 0 7 -> BAD
            behind 101 -1 -> BAD
            behind 0 0 -> 1
            behind 0 1 -> 1
            behind 0 2 -> 2
            behind 0 3 -> 60
            behind 0 4 -> 60
            behind 0 5 -> 70
            """);
        of(sentence, """
            behind 0 3 -> BAD
            behind 100 2 -> 0
            behind 100 3 -> BAD
            """);
        of(sentence, STILL).goes("""
            deal 10 -> 10
            behind 0 13 -> BAD
            set 9 2 33 -> 70
            behind 0 12 -> 33
            """.replace("70", "" + tenthSharp()));
        of(sentence, STILL).goes("""
            leg 5 0 99 -> 0
            leg 0 0 99 -> 1
            set 1 3 1 -> 0
            turns 1 5 -> 0
            behind 1 3 -> 98
            behind 1 4 -> 99
            behind 2 4 -> 98
            behind 99 3 -> 49
            behind 99 4 -> 50
            behind 100 3 -> 49
            behind 100 4 -> 49
            behind 100 2 -> 1
            behind 100 0 -> 0
            """);
        for (int n : new int[] {0, 1, 2, 99, 100}) {
            of("BEHIND n (0 .. 100) DAYS", "rule 2 99 -> 40\nleg 0 0 50 -> 0").line("behind " + n + " 0 -> " + n);
        }
        // TRAM 1 is above 0; by one rain it is 0
        of(sentence, """
            rule 0 100 -> 20
            rule 2 0 -> 40
            leg 0 0 50 -> 0
            set 0 3 2 -> 0
            behind 0 2 -> 1
            behind 1 2 -> 1
            behind 2 2 -> 0
            """);
    }

    private static int tenthSharp() {
        Lots lots = new Lots(1);
        int sharp = 0;
        for (int i = 0; i < 30; i++) {
            sharp = lots.draw() % 100;
        }
        return sharp;
    }

    // ---- promises 14 and 15

    private static void dulls() {
        busy("DULLS of a LEG, v (0 .. 99). BAD; NONE: not by then.", """
            dulls -1 50 -> BAD
            dulls 3 50 -> BAD
            dulls MIN 50 -> BAD
            dulls MAX 50 -> BAD
            dulls 1 -1 -> BAD
            dulls 1 100 -> BAD
            dulls 1 MIN -> BAD
            dulls 1 MAX -> BAD
            dulls 3 100 -> BAD
            # below 0 is none, below 99 is 98
            dulls 1 0 -> NONE
            set 1 2 99 -> 60
            rule 0 0 -> 35
            dulls 1 99 -> 2
            set 1 2 98 -> 99
            dulls 1 99 -> 0
            dulls 2 71 -> 0
            dulls 2 70 -> 3
            """);
        of("behind how many DAYS (0 .. 200) its SHARP is below v first", STILL).goes("""
            leg 0 0 50 -> 0
            dulls 0 51 -> 0
            dulls 0 50 -> 1
            dulls 0 46 -> 1
            dulls 0 45 -> 2
            dulls 0 1 -> 10
            dulls 0 0 -> NONE
            set 0 2 0 -> 50
            dulls 0 1 -> 0
            dulls 0 0 -> NONE
            """);
    }

    private static void dullsLate() {
        // each of three is worn on every third day, and takes 67 of them to be below 33
        of("behind how many DAYS (0 .. 200) its SHARP is below v first", STILL).goes("""
            leg 5 0 99 -> 0
            leg 5 0 99 -> 1
            leg 5 0 99 -> 2
            dulls 2 34 -> 198
            dulls 0 33 -> 199
            dulls 1 33 -> 200
            dulls 2 33 -> NONE
            dulls 0 32 -> NONE
            """);
    }

    private static void doubles() {
        busy("DOUBLES of a LEG. BAD; NONE: not by then.", """
            doubles -1 -> BAD
            doubles 3 -> BAD
            doubles MIN -> BAD
            doubles MAX -> BAD
            doubles 2 -> 0
            doubles 0 -> 0
            rule 2 0 -> 40
            doubles 1 -> NONE
            set 1 3 1 -> 0
            doubles 1 -> 0
            set 1 3 0 -> 1
            doubles 1 -> NONE
            """);
        for (int rest = 0; rest < 7; rest++) {
            int z = Lots.seed(new int[] {1, 7}, 0, rest);
            of("behind how many DAYS (0 .. 200) its TRAM is above 0 first", """
                rule 0 0 -> 20
                rule 2 20 -> 40
                leg 0 0 20 -> 0
                keep -> 1
                """).line("seed " + z + " -> 1").line("doubles 0 -> " + (rest < 2 || rest > 4 ? "1" : firstLater(z)));
        }
        // a second crease of 0 is none
        of("behind how many DAYS (0 .. 200) its TRAM is above 0 first", """
            rule 0 0 -> 20
            rule 1 0 -> 1
            rule 2 1 -> 40
            says "press 0" -> 0
            leg 0 0 0 -> 0
            doubles 0 -> NONE
            """);
    }

    /** One LEG of SHARP 60 behind its first pressing: below 20 each ninth day, pressed then; HOLDS makes it sharper. */
    private static String firstLater(int z) {
        Lots lots = new Lots(z);
        int sharp = 20;
        int holds = 0;
        for (int day = 1; day <= 200; day++) {
            sharp = Math.max(0, sharp - 5);
            lots.draw();
            if (sharp < 20) {
                int rest = lots.draw() % 7;
                if (rest < 2 || rest > 4) {
                    return "" + day;
                }
                sharp = Math.min(99, 60 + 3 * holds);
                holds = Math.min(9, holds + 1);
            }
        }
        return "NONE";
    }

    private static void doublesLate() {
        // of three TWEED legs one is below CARE on its 67th day first, and pressed then, not along
        String scene = """
            rule 0 0 -> 20
            rule 1 0 -> 1
            rule 2 4 -> 40
            """;
        for (int leg = 0; leg < 3; leg++) {
            int z = 0;
            while (new Lots(Lots.behind(z, 199 + leg)).draw() % 7 == 3) {
                z++;
            }
            Run run = of("behind how many DAYS (0 .. 200) its TRAM is above 0 first", scene);
            for (int i = 0; i < 3; i++) {
                run.line("leg 5 0 " + (i == leg ? 70 : 99) + " -> " + i);
            }
            run.line("seed " + z + " -> 1").line("doubles " + leg + " -> " + (leg < 2 ? "" + (199 + leg) : "NONE"));
            run.line("days 100 -> 0").line("days 98 -> 0").line("doubles " + leg + " -> " + (1 + leg));
        }
    }

    // ---- promise 16

    private static void wax() {
        String sentence = "WAX for n (0 .. 20): a set. BAD; NONE: by none.";
        busy(sentence, """
            wax -1 -> BAD
            wax 21 -> BAD
            wax MIN -> BAD
            wax MAX -> BAD
            wax 0 -> 0
            set 2 2 39 -> 70
            wax 0 -> NONE
            """);
        of(sentence, """
            wax 0 -> 0
            wax 20 -> 0
            wax 21 -> BAD
            rule 2 99 -> 40
            wax 20 -> 0
            """);
        // a LEG of 88 is below CARE on its tenth day (38), a WAXED one of 88 is 68 behind twenty
        of(sentence, """
            rule 0 0 -> 20
            rule 3 0 -> 60
            leg 0 0 88 -> 0
            wax 1 -> 0
            wax 9 -> 0
            wax 10 -> 1
            wax 19 -> 1
            wax 20 -> 1
            wax 21 -> BAD
            """);
    }

    private static void waxCare() {
        String sentence = "SHARP of none is below CARE behind n DAYS";
        for (int[] sharp : new int[][] {{39, -1}, {40, 0}, {41, 0}}) {
            of(sentence, "leg 0 0 99 -> 0").line("leg 0 0 " + sharp[0] + " -> 1").line("wax 0 -> " + (sharp[1] < 0 ? "NONE" : "0"));
        }
        of(sentence, """
            rule 2 0 -> 40
            leg 0 0 0 -> 0
            wax 0 -> 0
            wax 20 -> 0
            rule 2 1 -> 0
            wax 0 -> NONE
            """);
        // an iron that is cold: 10 for WAXED, which is below CARE too
        of(sentence, """
            rule 0 0 -> 20
            rule 3 0 -> 60
            leg 0 0 40 -> 0
            wax 1 -> NONE
            set 0 2 41 -> 40
            wax 1 -> 1
            wax 2 -> NONE
            set 0 2 44 -> 41
            wax 1 -> 1
            set 0 2 45 -> 44
            wax 1 -> 0
            wax 2 -> 1
            wax 5 -> 1
            wax 6 -> NONE
            """);
    }

    private static void waxAll() {
        Run run = of("the set of fewest LEGS such that, if these are of KIND WAXED from now on, SHARP of none is below CARE behind n DAYS", """
            rule 0 0 -> 20
            rule 3 0 -> 60
            """);
        for (int i = 0; i < 10; i++) {
            run.line("leg 0 0 41 -> " + i);
        }
        run.goes("""
            wax 0 -> 0
            wax 1 -> 1
            wax 2 -> 3
            wax 9 -> 511
            wax 10 -> 1023
            wax 11 -> NONE
            # who is WAXED already need not be
            turns 4 3 -> 0
            turns 9 3 -> 0
            wax 10 -> 495
            set 0 2 42 -> 41
            turns 0 3 -> 0
            wax 11 -> 494
            """);
    }

    /** The set {2} is one leg, {0, 1} is two: the fewest count ahead of the least. */
    private static void waxFewest() {
        // with HEAT 39 a LEG must be pressed twice to be above CARE, a WORSTED one once; four days are four pressings
        of("the set of fewest LEGS", """
            rule 0 0 -> 20
            rule 3 39 -> 60
            leg 1 0 41 -> 0
            leg 1 0 41 -> 1
            leg 0 0 41 -> 2
            leg 1 0 39 -> 3
            leg 1 0 39 -> 4
            wax 4 -> 4
            turns 0 3 -> 1
            turns 1 3 -> 1
            wax 4 -> 0
            turns 1 1 -> 3
            wax 4 -> 2
            turns 0 1 -> 3
            turns 2 3 -> 0
            wax 4 -> 0
            """);
    }

    private static void waxLeast() {
        // leg 3 needs a pressing, and either of the two that are worn can leave theirs to it
        of("of several the least", """
            rule 0 0 -> 20
            leg 0 0 41 -> 0
            leg 0 0 41 -> 1
            leg 0 0 39 -> 2
            wax 2 -> 1
            turns 0 3 -> 0
            wax 2 -> 0
            turns 0 0 -> 3
            turns 1 3 -> 0
            wax 2 -> 0
            """);
        of("of several the least", """
            rule 0 0 -> 20
            days 1 -> 0
            leg 0 0 99 -> 0
            leg 0 0 41 -> 1
            leg 0 0 41 -> 2
            leg 0 0 39 -> 3
            wax 2 -> 2
            """);
    }

    // ---- promise 17

    private static void iron() {
        String sentence = "IRON for n (0 .. 30), v (0 .. 990). BAD; NONE: with none.";
        busy(sentence, """
            iron -1 0 -> BAD
            iron 31 0 -> BAD
            iron MIN 0 -> BAD
            iron MAX 0 -> BAD
            iron 0 -1 -> BAD
            iron 0 991 -> BAD
            iron 0 MIN -> BAD
            iron 0 MAX -> BAD
            iron 31 991 -> BAD
            iron 0 0 -> 0
            iron 0 1 -> 0
            iron 0 189 -> 0
            iron 0 190 -> 0
            iron 0 191 -> NONE
            iron 30 990 -> NONE
            """);
        Run run = of(sentence, "");
        for (int i = 0; i < 10; i++) {
            run.line("leg 0 0 99 -> " + i);
        }
        run.goes("""
            iron 0 989 -> 0
            iron 0 990 -> 0
            iron 0 991 -> BAD
            set 9 2 98 -> 99
            iron 0 989 -> 0
            iron 0 990 -> NONE
            """);
        // pressed on each day: SHARP is HEAT and 3 for each day ahead, up to 9
        of(sentence, """
            rule 0 0 -> 20
            rule 1 3 -> 1
            rule 2 99 -> 40
            leg 0 0 50 -> 0
            iron 1 50 -> 50
            iron 2 50 -> 47
            iron 10 50 -> 23
            iron 29 50 -> 23
            iron 30 50 -> 23
            iron 30 27 -> 0
            iron 30 28 -> 1
            iron 30 98 -> 71
            iron 30 99 -> 72
            iron 30 100 -> NONE
            """);
    }

    private static void ironLeast() {
        of("the least HEAT (0 .. 99) with which, were it that from now on, SHARP of all, together, is v or more behind n DAYS", """
            rule 0 0 -> 20
            leg 0 0 44 -> 0
            iron 1 0 -> 0
            iron 1 1 -> 1
            iron 1 2 -> 2
            iron 1 98 -> 98
            iron 1 99 -> 99
            iron 1 100 -> NONE
            leg 0 0 99 -> 1
            iron 1 99 -> 0
            iron 1 100 -> 1
            iron 1 198 -> 99
            iron 1 199 -> NONE
            count 5 -> 60
            # not the hotter the sharper: the least of several
            says "press (h=7)*9+(h=99)*9" -> 0
            iron 1 99 -> 0
            iron 1 100 -> 7
            iron 1 108 -> 7
            iron 1 109 -> NONE
            says "press (h=99)*9" -> 1
            iron 1 108 -> 99
            says "press (h=0)*9" -> 2
            iron 1 108 -> 0
            says "press (h=98)*9" -> 3
            iron 1 108 -> 98
            """);
    }

    // ---- promises 18 and 19

    private static void first() {
        String sentence = "FIRST for n (1 .. 60): what 0 the LEG, 1 SHARP of all, together. BAD; NONE: there are no LEGS.";
        busy(sentence, """
            first 0 0 -> BAD
            first -1 0 -> BAD
            first 61 0 -> BAD
            first MIN 0 -> BAD
            first MAX 0 -> BAD
            first 1 -1 -> BAD
            first 1 2 -> BAD
            first 1 MIN -> BAD
            first 1 MAX -> BAD
            first 61 2 -> BAD
            """);
        of(sentence, """
            first 1 0 -> NONE
            first 1 1 -> NONE
            first 60 1 -> NONE
            # of several the one that stands first
            first 0 0 -> BAD
            first 61 0 -> BAD
            first 1 2 -> BAD
            leg 0 0 0 -> 0
            first 1 0 -> 0
            """);
        // pressed now: HEAT 99; each day takes 1 of the one TWEED that stays as it is
        of(sentence, STILL).goes("""
            rule 3 99 -> 60
            leg 5 0 90 -> 0
            leg 1 0 0 -> 1
            first 1 0 -> 1
            first 1 1 -> 188
            first 2 1 -> 185
            first 59 1 -> 72
            first 60 1 -> 69
            first 61 1 -> BAD
            """);
    }

    private static void firstLeast() {
        String sentence = "the LEG that had best be PRESSED now, BESIDE by 0, so that SHARP of all, together, is most behind n DAYS; of several the least";
        of(sentence, STILL).goes("""
            leg 0 0 40 -> 0
            leg 0 0 30 -> 1
            leg 0 0 30 -> 2
            leg 0 0 30 -> 3
            # 20 more, or 30 more of three
            first 3 0 -> 1
            first 3 1 -> 145
            set 3 5 1 -> 0
            first 3 0 -> 3
            first 3 1 -> 148
            set 3 5 0 -> 1
            set 0 2 30 -> 40
            first 3 0 -> 0
            """);
        // even if it makes all worse, one is pressed: 98 stay, or 94 of the one that is worn
        of(sentence, STILL).goes("""
            rule 3 0 -> 60
            leg 0 0 99 -> 0
            leg 0 0 98 -> 1
            first 1 0 -> 0
            first 1 1 -> 98
            set 1 2 94 -> 98
            first 1 0 -> 0
            first 1 1 -> 94
            set 1 2 93 -> 94
            first 1 0 -> 1
            first 1 1 -> 94
            set 1 2 99 -> 93
            set 0 2 0 -> 99
            set 1 2 0 -> 99
            first 60 0 -> 0
            first 60 1 -> 0
            """);
    }

    private static void firstAlong() {
        // along: HOLDS 5 becomes 6, by which it is pressed again; beside it would be 1
        of("PRESSED now, BESIDE by 0", """
            rule 0 0 -> 20
            rule 1 0 -> 1
            rule 2 99 -> 40
            says "press o" -> 0
            leg 0 0 99 -> 0
            set 0 5 5 -> 0
            first 1 1 -> 6
            """);
    }

    private static void becomes() {
        String sentence = "BECOMES of a LEG, for n (1 .. 60): what 0 the KIND, 1 SHARP of all, together. BAD.";
        busy(sentence, """
            becomes -1 1 0 -> BAD
            becomes 3 1 0 -> BAD
            becomes MIN 1 0 -> BAD
            becomes MAX 1 0 -> BAD
            becomes 2 0 0 -> BAD
            becomes 2 -1 0 -> BAD
            becomes 2 61 0 -> BAD
            becomes 2 MIN 0 -> BAD
            becomes 2 MAX 0 -> BAD
            becomes 2 1 -1 -> BAD
            becomes 2 1 2 -> BAD
            becomes 2 1 MIN -> BAD
            becomes 2 1 MAX -> BAD
            becomes 3 61 2 -> BAD
            """);
        of(sentence, STILL).goes("""
            becomes 0 1 0 -> BAD
            leg 0 0 99 -> 0
            # WAXED and TWEED lose 1 a day
            becomes 0 1 1 -> 98
            becomes 0 2 1 -> 97
            becomes 0 59 1 -> 40
            becomes 0 60 1 -> 39
            becomes 0 61 1 -> BAD
            """);
    }

    private static void becomesLeast() {
        String sentence = "the KIND of which it had best be from now on, likewise; of several the least";
        of(sentence, STILL).goes("""
            leg 5 0 99 -> 0
            leg 5 0 99 -> 1
            # WAXED loses as little as TWEED; who is not worn loses nothing
            becomes 0 1 0 -> 3
            becomes 1 1 0 -> 0
            becomes 1 2 0 -> 3
            set 0 2 0 -> 99
            becomes 0 1 0 -> 0
            becomes 0 60 1 -> 69
            set 0 2 4 -> 0
            becomes 0 1 0 -> 3
            set 0 2 1 -> 4
            becomes 0 1 0 -> 0
            # of 5 a WORSTED one has 2, a WAXED one 4
            set 0 2 5 -> 1
            becomes 0 1 1 -> 103
            """);
        // pressed to 0 and 10 and 10 and 30 and 20 again: SLEPT is best, and by HEAT 20 WORSTED is the least of 30
        of(sentence, """
            rule 0 0 -> 20
            rule 3 0 -> 60
            leg 5 0 0 -> 0
            becomes 0 1 0 -> 4
            becomes 0 1 1 -> 30
            rule 3 19 -> 0
            becomes 0 1 0 -> 4
            rule 3 20 -> 19
            becomes 0 1 0 -> 1
            becomes 0 1 1 -> 30
            says "press 0" -> 0
            becomes 0 1 0 -> 4
            """);
    }

    // ---- promise 20

    private static void like() {
        busy("LIKE by a SHEET: what 0 the LEG, 1 the differences, together. BAD; NOTHING; NONE: there are no LEGS.", """
            like -1 0 -> BAD
            like 4 0 -> BAD
            like MIN 0 -> BAD
            like MAX 0 -> BAD
            like 0 -1 -> BAD
            like 0 2 -> BAD
            like 0 MIN -> BAD
            like 0 MAX -> BAD
            like 3 2 -> BAD
            like 3 0 -> NOTHING
            like 3 1 -> NOTHING
            # a row without places: all are alike
            like 2 0 -> 0
            like 2 1 -> 0
            sheet 3 0 1 -> 1
            like 3 0 -> 0
            like 3 1 -> 13
            sheet 3 -1 0 -> 0
            like 3 0 -> NOTHING
            """);
        of("LIKE by a SHEET: what 0 the LEG, 1 the differences, together. BAD; NOTHING; NONE: there are no LEGS.", """
            like 0 0 -> NOTHING
            like 4 0 -> BAD
            like 0 2 -> BAD
            sheet 0 1 0 -> 0
            like 0 0 -> NONE
            like 0 1 -> NONE
            like 0 2 -> BAD
            like 1 0 -> NOTHING
            sheet 0 0 24 -> 24
            like 0 0 -> NONE
            leg 0 0 0 -> 0
            like 0 0 -> 0
            """);
    }

    private static void likeLeast() {
        of("differ least (signs left out), together; of several the least", STILL).goes("""
            leg 0 10 50 -> 0
            leg 0 20 50 -> 1
            leg 0 20 50 -> 2
            sheet 0 1 1 -> 1
            mark 0 0 14 -> 1
            like 0 0 -> 0
            like 0 1 -> 4
            mark 0 0 15 -> 1
            like 0 0 -> 0
            like 0 1 -> 5
            mark 0 0 16 -> 1
            like 0 0 -> 1
            like 0 1 -> 4
            mark 0 0 24 -> 1
            like 0 0 -> 1
            like 0 1 -> 4
            mark 0 0 -1 -> 1
            like 0 0 -> 0
            like 0 1 -> 11
            mark 0 0 99999 -> 1
            like 0 0 -> 1
            like 0 1 -> 99979
            mark 0 0 -99999 -> 1
            like 0 0 -> 0
            like 0 1 -> 100009
            """);
        Run most = of("differ least (signs left out), together; of several the least", STILL).line("leg 0 59 50 -> 0").line("sheet 1 1 24 -> 24").line("sheet 2 0 24 -> 24");
        for (int k = 0; k < 24; k++) {
            most.line("mark 1 " + k + " -99999 -> 1").line("mark 2 " + k + " -32768 -> 1");
        }
        most.line("like 1 1 -> " + 24 * 100058).line("like 2 1 -> " + 24 * 32827);
    }

    private static void likeNumbers() {
        of("places k that are numbers (k from 0 on)", STILL).goes("""
            leg 0 10 50 -> 0
            leg 0 20 50 -> 1
            sheet 0 1 3 -> 3
            mark 0 0 NONE -> 1
            mark 0 1 NONE -> 1
            mark 0 2 NONE -> 1
            like 0 0 -> 0
            like 0 1 -> 0
            mark 0 2 20 -> 1
            like 0 0 -> 1
            like 0 1 -> 0
            mark 0 0 10 -> 1
            like 0 0 -> 0
            like 0 1 -> 10
            mark 0 1 18 -> 1
            like 0 0 -> 1
            like 0 1 -> 12
            """);
    }

    private static void likeDays() {
        // pressed on each day by 3 to the right: z is chosen for the first days, and HEAT 0 keeps it dull
        int z = Lots.seed(new int[] {1, 7, 1, 7}, 0, 6, 0, 0);
        of("the LEG of which PLACE behind k DAYS and places k that are numbers", """
            rule 0 0 -> 20
            rule 1 0 -> 1
            rule 2 99 -> 40
            leg 5 58 50 -> 0
            """).line("seed " + z + " -> 1").goes("""
            sheet 0 1 3 -> 3
            mark 0 0 58 -> 1
            mark 0 1 1 -> 1
            mark 0 2 58 -> 1
            like 0 1 -> 0
            mark 0 1 59 -> 1
            like 0 1 -> 58
            mark 0 1 NONE -> 1
            mark 0 2 59 -> 1
            like 0 1 -> 1
            """);
    }

    private static void likeTen() {
        Run run = of("the LEG of which PLACE behind k DAYS", STILL);
        for (int i = 0; i < 10; i++) {
            run.line("leg 0 " + (59 - i) + " 50 -> " + i);
        }
        run.goes("""
            sheet 0 0 24 -> 24
            like 0 0 -> 9
            like 0 1 -> 1200
            sheet 1 1 24 -> 24
            mark 1 23 60 -> 1
            like 1 0 -> 9
            like 1 1 -> 1160
            """);
    }

    // ---- promises 21 and 22

    private static void fee() {
        busy("What fee gives.", "fee -> 8\nirons 0 0 -> 1\nfee -> 15");
        of("what fee gives is told by fee(); without a TEXT: PRESSED", """
            fee -> 0
            leg 0 0 0 -> 0
            irons 0 3 -> 0
            fee -> 1
            says "fine 7" -> 0
            says "press 7" -> 1
            fee -> 1
            says "fee 0-t" -> 2
            fee -> -1
            says "fee 4096*4096*128" -> 3
            fee -> MIN
            says "fee 4096*4096*128-1" -> 4
            fee -> MAX
            """);
    }

    private static void fine() {
        busy("What fine gives for a LEG. BAD.", """
            fine -1 -> BAD
            fine 3 -> BAD
            fine MIN -> BAD
            fine MAX -> BAD
            fine 0 -> 60
            fine 1 -> 60
            fine 2 -> 70
            says "fine s-k*100" -> 2
            fine 1 -> -3240
            fine 2 -> 70
            fine 3 -> BAD
            """);
        of("what fine gives for a LEG is told by fine(); without a TEXT: SHARP", """
            fine 0 -> BAD
            says "fine 5" -> 0
            fine 0 -> BAD
            leg 0 0 99 -> 0
            fine 0 -> 5
            """);
    }
}
