/** The boundary cases of Terms 5 (images, the days told) and of promises 37 to 41, and of a whole run of 512 calls. */
public final class RowsBoundsTest {
    private static final Due due = new Due();

    public static void main(String[] args) {
        tell();
        tellAny();
        check();
        checkMissing();
        checkMost();
        checkImage();
        checkLastDays();
        keep();
        back();
        imageKeeps();
        imageLeaves();
        imageFull();
        newWhereOneWas();
        count();
        wholeRun();
        due.end();
    }

    private static Run of(String sentence, String lines) {
        return Run.of(due, sentence, lines);
    }

    private static Run busy(String sentence, String lines) {
        return Run.busy(due, sentence, lines);
    }

    // ---- promise 37

    private static void tell() {
        Run run = busy("One more number waits: how many. FULL: 60 wait.", "count 7 -> 4");
        for (int i = 5; i <= 59; i++) {
            run.line("tell " + i + " -> " + i);
        }
        run.goes("""
            count 7 -> 59
            tell 60 -> 60
            tell 61 -> FULL
            tell 0 -> FULL
            count 7 -> 60
            check 1 -> 3
            count 7 -> 0
            tell 7 -> 1
            """);
    }

    private static void tellAny() {
        of("One more number waits: how many. FULL: 60 wait.", """
            tell MIN -> 1
            tell MAX -> 2
            tell NONE -> 3
            tell 0 -> 4
            count 7 -> 4
            """);
    }

    // ---- promise 38

    private static void check() {
        // by the image of BUSY two days are told: 0 175 0 174
        String sentence = "The numbers that wait (none do then, whatever is answered) are THE DAYS TOLD of n";
        busy(sentence, "check 2 -> 0\ncount 7 -> 0\ncheck 2 -> 1\ncheck 1 -> 1");
        busy(sentence, "check 1 -> 3\ncount 7 -> 0");
        busy(sentence, "check 3 -> 5\ncount 7 -> 0");
        busy(sentence, "check 30 -> 5\ncount 7 -> 0");
        busy(sentence, "check 0 -> BAD\ncount 7 -> 0");
        busy(sentence, "check -1 -> BAD\ncount 7 -> 0");
        busy(sentence, "check 31 -> BAD\ncount 7 -> 0");
        busy(sentence, "check MIN -> BAD\ncount 7 -> 0");
        busy(sentence, "check MAX -> BAD\ncount 7 -> 0");
        of("BAD; NO: there is no IMAGE.", """
            tell 0 -> 1
            check 1 -> NO
            count 7 -> 0
            check 1 -> NO
            check 30 -> NO
            # of several the one that stands first
            tell 0 -> 1
            check 0 -> BAD
            count 7 -> 0
            check 31 -> BAD
            keep -> 0
            check 0 -> BAD
            check 31 -> BAD
            check 1 -> 1
            """);
    }

    private static void checkMissing() {
        String sentence = "two by two: 0; else 1 and how many stand right ahead of the first that is not (or is missing, or one too many)";
        int[] rows = {0, 175, 0, 174, 0, 164};
        String image = """
            leg 0 10 50 -> 0
            leg 3 20 60 -> 1
            leg 4 30 70 -> 2
            keep -> 3
            """;
        for (int many = 0; many <= 6; many++) {
            for (int n = 1; n <= 3; n++) {
                Run run = of(sentence, image);
                for (int i = 0; i < many; i++) {
                    run.line("tell " + rows[i] + " -> " + (i + 1));
                }
                run.line("check " + n + " -> " + (many == 2 * n ? 0 : 1 + Math.min(many, 2 * n)));
            }
        }
        for (int wrong = 0; wrong < 6; wrong++) {
            for (int by : new int[] {-1, 1}) {
                Run run = of(sentence, image);
                for (int i = 0; i < 6; i++) {
                    run.line("tell " + (rows[i] + (i == wrong ? by : 0)) + " -> " + (i + 1));
                }
                run.line("check 3 -> " + (1 + wrong));
            }
        }
        // one too many, though it would be right for the day behind
        Run more = of(sentence, image);
        for (int i = 0; i < 5; i++) {
            more.line("tell " + rows[i] + " -> " + (i + 1));
        }
        more.line("check 2 -> 5");
    }

    private static void checkMost() {
        String sentence = "THE DAYS TOLD: of n DAYS, one behind the other, by THE IMAGE: PRESSED; SHARP of all, together, behind each.";
        // one TWEED leg that no rain wets and nobody presses: 98, 97, ..
        for (int n : new int[] {1, 2, 29, 30}) {
            Run run = of(sentence, "rule 0 0 -> 20\nrule 2 0 -> 40\nleg 5 0 99 -> 0\nirons 0 0 -> 1\nset 0 2 99 -> 20\nkeep -> 1");
            for (int i = 1; i <= n; i++) {
                run.line("tell 1 -> " + (2 * i - 1)).line("tell " + (99 - i) + " -> " + 2 * i);
            }
            if (n == 30) {
                run.line("tell 1 -> FULL");
            }
            run.line("check " + n + " -> 0");
        }
        // without legs nothing is pressed and nothing is sharp
        Run none = of(sentence, "keep -> 0");
        for (int i = 1; i <= 60; i++) {
            none.line("tell 0 -> " + i);
        }
        none.line("check 30 -> 0");
        // PRESSED is the whole number, with what was ahead of the image
        of(sentence, """
            rule 0 0 -> 20
            rule 2 99 -> 40
            leg 5 0 50 -> 0
            irons 0 0 -> 1
            irons 0 0 -> 1
            keep -> 1
            tell 3 -> 1
            tell 20 -> 2
            tell 4 -> 3
            tell 20 -> 4
            check 2 -> 0
            tell 1 -> 1
            check 1 -> 1
            """);
    }

    private static void checkImage() {
        busy("by THE IMAGE", """
            days 1 -> 0
            turns 0 5 -> 0
            rule 2 99 -> 40
            says "press 0" -> 2
            """).line("seed 99 -> " + Lots.behind(1, 1)).goes("""
            check 2 -> 0
            back -> 3
            tell 0 -> 1
            tell 175 -> 2
            check 1 -> 0
            keep -> 3
            tell 0 -> 1
            tell 175 -> 2
            check 1 -> 0
            # another image: a day later
            days 1 -> 0
            keep -> 3
            tell 0 -> 1
            tell 175 -> 2
            check 1 -> 2
            tell 0 -> 1
            tell 174 -> 2
            check 1 -> 0
            """);
    }

    private static void checkLastDays() {
        String sentence = "(1 .. 30; fewer, if THE DAY would be above 9999)";
        for (int left = 0; left <= 3; left++) {
            Run run = of(sentence, "rule 0 0 -> 20\nrule 2 0 -> 40");
            for (int i = 0; i < 99; i++) {
                run.line("days 100 -> 0");
            }
            run.line("days " + (99 - left) + " -> 0").line("leg 5 0 99 -> 0").line("keep -> 1").line("count 1 -> " + (9999 - left));
            for (int n : new int[] {1, 2, 3, 30}) {
                int due = Math.min(n, left);
                tells(run, due);
                run.line("check " + n + " -> 0");
                tells(run, due + 1);
                run.line("check " + n + " -> " + (2 * due + 1));
                if (due > 0) {
                    tells(run, due - 1);
                    run.line("check " + n + " -> " + (2 * due - 1));
                }
            }
            run.line("count 1 -> " + (9999 - left));
        }
    }

    private static void tells(Run run, int days) {
        for (int i = 1; i <= days; i++) {
            run.line("tell 0 -> " + (2 * i - 1)).line("tell " + (99 - i) + " -> " + 2 * i);
        }
    }

    // ---- promises 39 and 40

    private static void keep() {
        of("AN IMAGE is kept: how many LEGS.", """
            keep -> 0
            leg 0 0 0 -> 0
            keep -> 1
            deal 8 -> 8
            keep -> 9
            deal 1 -> 1
            keep -> 10
            keep -> 10
            back -> 10
            """);
    }

    private static void back() {
        of("All is as THE IMAGE: how many LEGS. NO: there is none.", """
            back -> NO
            leg 0 0 0 -> 0
            back -> NO
            count 0 -> 1
            keep -> 1
            deal 9 -> 9
            back -> 1
            count 0 -> 1
            told 1 0 -> BAD
            back -> 1
            deal 9 -> 9
            leg 0 0 0 -> FULL
            back -> 1
            leg 5 5 5 -> 1
            """);
        of("All is as THE IMAGE: how many LEGS. NO: there is none.", """
            keep -> 0
            deal 10 -> 10
            back -> 0
            closet 5 -> NONE
            back -> 0
            deal 10 -> 10
            keep -> 10
            back -> 10
            """);
    }

    private static void imageKeeps() {
        busy("AN IMAGE keeps all but SHEETS, SLOTS, numbers that wait, THE TAPE; all can become as it is (again and again).", """
            count 2 -> 35
            closet 0 -> 1
            closet 1 -> 1
            back -> 3
            count 2 -> 20
            closet 0 -> 0
            closet 1 -> 0
            told 0 1 -> 10
            told 0 2 -> 50
            told 0 3 -> 0
            told 0 5 -> 0
            told 1 4 -> 0
            told 2 3 -> 0
            rule 1 3 -> 1
            rule 2 99 -> 40
            rule 3 1 -> 60
            seed 5 -> 1
            turns 0 3 -> 0
            deal 7 -> 7
            days 30 -> 30
            says "fine 3" -> 2
            says "press 9" -> 3
            says "fee 8" -> 4
            back -> 3
            count 0 -> 3
            count 1 -> 0
            count 2 -> 20
            count 3 -> 1
            count 4 -> 40
            count 5 -> 60
            count 6 -> 2
            count 9 -> 1
            closet 0 -> 0
            closet 1 -> 0
            closet 2 -> 0
            closet 3 -> 180
            closet 4 -> 0
            told 0 0 -> 0
            told 0 6 -> 60
            why 0 -> 0
            why 1 -> 1
            why 2 -> NONE
            fee -> 0
            fine 0 -> 50
            textTold 2 0 -> BAD
            """);
        // what is kept stays as it was, whatever is done to what is now
        of("all can become as it is (again and again)", """
            leg 0 7 50 -> 0
            rule 0 100 -> 20
            rule 2 0 -> 40
            keep -> 1
            days 1 -> 0
            closet 2 -> 1
            set 0 1 9 -> 7
            back -> 1
            closet 2 -> 0
            set 0 1 8 -> 7
            back -> 1
            told 0 1 -> 7
            days 1 -> 0
            back -> 1
            count 1 -> 0
            told 0 2 -> 50
            """);
    }

    private static void imageLeaves() {
        busy("AN IMAGE keeps all but SHEETS, SLOTS, numbers that wait, THE TAPE", """
            back -> 3
            count 7 -> 4
            count 8 -> 12
            ask 0 3 -> 120
            item 1 3 -> 99999
            item 1 2 -> KIND
            rest 2 10 -> 7
            reads 3 -> NOTHING
            lay 4 2 0 -> 0
            item 4 1 -> -7
            sheet 0 -1 0 -> 0
            lay 2 0 0 -> 3
            tell 9 -> 5
            trim 6 -> 6
            back -> 3
            reads 0 -> NOTHING
            rest 2 10 -> NOTHING
            count 7 -> 5
            count 8 -> 6
            keep -> 3
            count 7 -> 5
            count 8 -> 6
            text -> 2
            fine 0 -> 50
            """);
    }

    /** All that an image can keep at most. */
    private static void imageFull() {
        Run run = of("AN IMAGE keeps all but SHEETS, SLOTS, numbers that wait, THE TAPE", "rule 0 0 -> 20\nrule 2 0 -> 40");
        for (int i = 0; i < 10; i++) {
            run.line("leg 5 " + i + " " + (90 + i) + " -> " + i);
        }
        for (int i = 0; i < 14; i++) {
            run.line("says \"fee " + i + "\" -> " + i);
        }
        run.goes("""
            keep -> 10
            says "fee 14" -> FULL
            behind 10 0 -> 0
            behind 10 12 -> 98
            set 9 2 0 -> 99
            back -> 10
            fee -> 13
            count 6 -> 14
            told 9 2 -> 99
            tell 0 -> 1
            tell 944 -> 2
            check 1 -> 0
            """);
    }

    /** A leg in a place that held another one begins as told. */
    private static void newWhereOneWas() {
        of("TRAM 0 .. 99 (how sharp a second crease is; 0 at first), KNEE 0 .. 99 (0 at first), HOLDS 0 .. 9 (how often it was pressed there; 0 at first)", """
            keep -> 0
            leg 4 9 9 -> 0
            set 0 3 5 -> 0
            set 0 4 6 -> 0
            set 0 5 7 -> 0
            back -> 0
            leg 1 2 3 -> 0
            told 0 0 -> 1
            told 0 1 -> 2
            told 0 2 -> 3
            told 0 3 -> 0
            told 0 4 -> 0
            told 0 5 -> 0
            set 0 3 5 -> 0
            set 0 4 6 -> 0
            set 0 5 7 -> 0
            back -> 0
            deal 1 -> 1
            told 0 3 -> 0
            told 0 4 -> 0
            told 0 5 -> 0
            """);
    }

    // ---- promise 41

    private static void count() {
        busy("0 how many LEGS, 1 THE DAY, 2 RAIN, 3 FEEL, 4 CARE, 5 HEAT, 6 TEXTS, 7 numbers that wait, 8 bytes of THE TAPE, 9 z. BAD.", """
            count -1 -> BAD
            count 10 -> BAD
            count MIN -> BAD
            count MAX -> BAD
            count 0 -> 3
            count 1 -> 0
            count 2 -> 35
            count 3 -> 1
            count 4 -> 40
            count 5 -> 60
            count 6 -> 2
            count 7 -> 4
            count 8 -> 12
            count 9 -> 1
            """);
    }

    /** The last of 512 calls is answered as the first, and so is each that is refused on the way. */
    private static void wholeRun() {
        CreaseLines x = new CreaseLines();
        due.is("call 1", x.deal(10), 10);
        int z = x.count(9);
        for (int call = 3; call <= 511; call += 2) {
            due.is("call " + call, x.seed(z), z);
            due.is("call " + (call + 1), x.leg(0, 0, 0), CreaseLines.FULL);
        }
        CreaseLines y = new CreaseLines();
        for (int call = 1; call <= 511; call++) {
            due.is("call " + call, y.seed(call + 1), call);
        }
        due.is("call 512", y.count(9), 512);
        // the dearest calls, all through a run
        CreaseLines dear = new CreaseLines();
        dear.deal(10);
        dear.rule(2, 99);
        for (int call = 3; call <= 512; call++) {
            due.is("call " + call, dear.wax(20), CreaseLines.NONE);
        }
    }
}
