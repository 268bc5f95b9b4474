/** The boundary cases of Terms 5 (sheets, slots) and of promises 28 to 36, each sentence by itself. */
public final class SheetsBoundsTest {
    private static final Due due = new Due();

    public static void main(String[] args) {
        sheet();
        sheetMissing();
        sheetPlaces();
        mark();
        markShorts();
        markFloats();
        pour();
        pourHeld();
        pourBeyond();
        pourTen();
        reads();
        readsPlaces();
        copy();
        copyBounds();
        copySame();
        lay();
        layForGood();
        ask();
        askKinds();
        item();
        rest();
        restEdges();
        due.end();
    }

    private static Run of(String sentence, String lines) {
        return Run.of(due, sentence, lines);
    }

    private static Run busy(String sentence, String lines) {
        return Run.busy(due, sentence, lines);
    }

    /** Looks at all places of a sheet by way of slot 4. */
    private static void row(Run run, int sheet, String... want) {
        run.line("lay 4 0 0 -> 0").line("lay 4 2 " + sheet + " -> 0");
        for (int i = 0; i < want.length; i++) {
            run.line("item 4 " + i + " -> " + want[i]);
        }
        run.line("item 4 " + want.length + " -> INDEX").line("lay 4 0 0 -> 2");
    }

    // ---- promise 28

    private static void sheet() {
        busy("BAD: sheet, sort, n above 24; SIZE.", """
            sheet -1 0 1 -> BAD
            sheet 4 0 1 -> BAD
            sheet MIN 0 1 -> BAD
            sheet MAX 0 1 -> BAD
            sheet 0 -2 1 -> BAD
            sheet 0 2 1 -> BAD
            sheet 0 MIN 1 -> BAD
            sheet 0 MAX 1 -> BAD
            sheet 0 0 25 -> BAD
            sheet 0 1 25 -> BAD
            sheet 0 0 MAX -> BAD
            sheet 0 0 -1 -> SIZE
            sheet 0 1 -1 -> SIZE
            sheet 0 0 MIN -> SIZE
            sheet 1 1 MIN -> SIZE
            # of several the one that stands first
            sheet 4 0 -1 -> BAD
            sheet -1 1 -1 -> BAD
            sheet 0 2 -1 -> BAD
            sheet 0 -2 -1 -> BAD
            # what was refused left the row as it was
            lay 4 2 0 -> 0
            item 4 1 -> -7
            item 4 3 -> INDEX
            """);
    }

    private static void sheetMissing() {
        busy("(sort -1: MISSING, n any): n (0)", """
            sheet 0 -1 0 -> 0
            reads 0 -> NOTHING
            sheet 1 -1 25 -> 0
            reads 1 -> NOTHING
            sheet 2 -1 -1 -> 0
            reads 2 -> NOTHING
            sheet 3 -1 MAX -> 0
            reads 3 -> NOTHING
            sheet 3 -1 MIN -> 0
            sheet 4 -1 0 -> BAD
            sheet -1 -1 0 -> BAD
            # the row in the slot is its own
            item 1 3 -> 99999
            sheet 0 0 1 -> 1
            reads 0 -> 0
            """);
    }

    private static void sheetPlaces() {
        String sentence = "rows of shorts (sort 0) or floats (1; whole numbers), with 0 to 24 places";
        for (int sort = 0; sort < 2; sort++) {
            for (int n : new int[] {0, 1, 2, 23, 24}) {
                Run run = of(sentence, "").line("sheet 3 " + sort + " " + n + " -> " + n)
                    .line("mark 3 " + n + " 5 -> INDEX").line("mark 3 -1 5 -> INDEX");
                String[] noughts = new String[n];
                java.util.Arrays.fill(noughts, "0");
                row(run, 3, noughts);
                if (n > 0) {
                    run.line("mark 3 " + (n - 1) + " 5 -> 1");
                    noughts[n - 1] = "5";
                    row(run, 3, noughts);
                }
            }
        }
        Run again = of("A SHEET becomes a row of n places of a sort, all 0", """
            sheet 0 1 3 -> 3
            mark 0 0 NONE -> 1
            mark 0 1 9 -> 1
            mark 0 2 9 -> 1
            sheet 0 0 2 -> 2
            """);
        row(again, 0, "0", "0");
        again.line("sheet 0 1 3 -> 3");
        row(again, 0, "0", "0", "0");
    }

    // ---- promise 29

    private static void mark() {
        String sentence = "BAD: sheet; NOTHING; INDEX; KIND: NONE in a row of shorts; BAD: v of floats.";
        busy(sentence, """
            mark -1 0 0 -> BAD
            mark 4 0 0 -> BAD
            mark MIN 0 0 -> BAD
            mark MAX 0 0 -> BAD
            mark 3 0 0 -> NOTHING
            mark 3 -1 NONE -> NOTHING
            mark 0 -1 0 -> INDEX
            mark 0 3 0 -> INDEX
            mark 0 MIN 0 -> INDEX
            mark 0 MAX 0 -> INDEX
            mark 2 0 0 -> INDEX
            mark 2 -1 0 -> INDEX
            mark 0 0 NONE -> KIND
            mark 0 2 NONE -> KIND
            mark 1 0 100000 -> BAD
            mark 1 0 -100000 -> BAD
            mark 1 3 MAX -> BAD
            mark 1 3 MIN -> BAD
            mark 1 3 BAD -> BAD
            # of several the one that stands first
            mark 4 9 100000 -> BAD
            mark 0 3 NONE -> INDEX
            mark 0 -1 NONE -> INDEX
            mark 1 4 100000 -> INDEX
            mark 1 -1 100000 -> INDEX
            mark 1 4 NONE -> INDEX
            mark 2 0 NONE -> INDEX
            mark 0 0 1 -> 1
            mark 0 2 1 -> 1
            mark 1 0 1 -> 1
            mark 1 3 1 -> 1
            """);
    }

    private static void markShorts() {
        String sentence = "of shorts its lowest 16 bits";
        String[][] marks = {{"0", "0"}, {"1", "1"}, {"-1", "-1"}, {"32766", "32766"}, {"32767", "32767"}, {"32768", "-32768"}, {"32769", "-32767"},
            {"-32767", "-32767"}, {"-32768", "-32768"}, {"-32769", "32767"}, {"65535", "-1"}, {"65536", "0"}, {"65537", "1"}, {"-65536", "0"},
            {"100000", "-31072"}, {"MAX", "-1"}, {"MIN", "0"}, {"BAD", "13823"}, {"-1000000004", "13820"}, {"-1000000006", "13818"}};
        Run run = of(sentence, "sheet 0 0 24 -> 24");
        String[] want = new String[24];
        java.util.Arrays.fill(want, "0");
        for (int i = 0; i < marks.length; i++) {
            run.line("mark 0 " + i + " " + marks[i][0] + " -> 1");
            want[i] = marks[i][1];
        }
        row(run, 0, want);
    }

    private static void markFloats() {
        Run run = of("of floats v, -99999 .. 99999; NONE: NO NUMBER", """
            sheet 0 1 6 -> 6
            mark 0 0 99998 -> 1
            mark 0 1 99999 -> 1
            mark 0 1 100000 -> BAD
            mark 0 2 -99998 -> 1
            mark 0 3 -99999 -> 1
            mark 0 3 -100000 -> BAD
            mark 0 4 NONE -> 1
            mark 0 4 -1000000004 -> BAD
            mark 0 4 -1000000006 -> BAD
            mark 0 5 NONE -> 1
            mark 0 5 NONE -> 1
            mark 0 5 0 -> 1
            """);
        row(run, 0, "99998", "99999", "-99998", "-99999", "KIND", "0");
    }

    // ---- promises 30 and 31

    private static void pour() {
        busy("how many are otherwise then. BAD; NOTHING.", """
            pour -1 -> BAD
            pour 4 -> BAD
            pour MIN -> BAD
            pour MAX -> BAD
            pour 3 -> NOTHING
            pour 2 -> 0
            told 0 2 -> 60
            pour 0 -> 3
            told 0 2 -> 0
            told 1 2 -> 0
            told 2 2 -> 0
            pour 0 -> 0
            set 2 2 1 -> 0
            pour 0 -> 1
            """);
        of("how many are otherwise then. BAD; NOTHING.", """
            pour 0 -> NOTHING
            sheet 0 0 24 -> 24
            # no LEGS
            pour 0 -> 0
            """);
    }

    private static void pourHeld() {
        String sentence = "each held within 0 and 99; NO NUMBER, and beyond the SHEET: it stays";
        int[][] marks = {{-99999, 0}, {-1, 0}, {0, 0}, {1, 1}, {98, 98}, {99, 99}, {100, 99}, {99999, 99}};
        for (int[] mark : marks) {
            of(sentence, "leg 0 0 50 -> 0\nsheet 0 1 1 -> 1").line("mark 0 0 " + mark[0] + " -> 1").line("pour 0 -> 1").line("told 0 2 -> " + mark[1])
                .line("pour 0 -> 0");
        }
        // what is held can be as it was
        of(sentence, """
            leg 0 0 99 -> 0
            leg 0 0 0 -> 1
            sheet 0 0 2 -> 2
            mark 0 0 32767 -> 1
            mark 0 1 -32768 -> 1
            pour 0 -> 0
            """);
        of(sentence, """
            leg 0 0 50 -> 0
            leg 0 0 50 -> 1
            leg 0 0 50 -> 2
            set 1 3 7 -> 0
            set 1 4 8 -> 0
            set 1 5 9 -> 0
            sheet 0 1 3 -> 3
            mark 0 0 NONE -> 1
            mark 0 2 NONE -> 1
            pour 0 -> 1
            told 0 2 -> 50
            told 1 2 -> 0
            told 2 2 -> 50
            told 1 1 -> 0
            told 1 3 -> 7
            told 1 4 -> 8
            told 1 5 -> 9
            """);
    }

    private static void pourBeyond() {
        for (int n : new int[] {0, 1, 2, 3, 4, 24}) {
            int come = Math.min(n, 3);
            Run run = of("NO NUMBER, and beyond the SHEET: it stays", """
                leg 0 0 50 -> 0
                leg 0 0 50 -> 1
                leg 0 0 50 -> 2
                """).line("sheet 0 0 " + n + " -> " + n).line("pour 0 -> " + come).line("count 0 -> 3");
            for (int i = 0; i < 3; i++) {
                run.line("told " + i + " 2 -> " + (i < come ? 0 : 50));
            }
        }
    }

    private static void pourTen() {
        Run run = of("SHARP of LEGS, by numbers, becomes the places of a SHEET from 0 on", "sheet 0 0 24 -> 24");
        for (int i = 0; i < 24; i++) {
            run.line("mark 0 " + i + " " + (i + 1) + " -> 1");
        }
        run.line("pour 0 -> 0");
        for (int i = 0; i < 10; i++) {
            run.line("leg 0 0 50 -> " + i).line("pour 0 -> 1").line("told " + i + " 2 -> " + (i + 1));
        }
        run.line("pour 0 -> 0").line("closet 3 -> 55").line("count 0 -> 10");
    }

    private static void reads() {
        busy("BAD; NOTHING; NONE: there is none.", """
            reads -1 -> BAD
            reads 4 -> BAD
            reads MIN -> BAD
            reads MAX -> BAD
            reads 3 -> NOTHING
            reads 2 -> NONE
            reads 0 -> 0
            mark 0 0 13 -> 1
            reads 0 -> 1
            mark 0 1 20 -> 1
            reads 0 -> 2
            mark 0 2 30 -> 1
            reads 0 -> NONE
            mark 0 2 31 -> 1
            reads 0 -> 2
            mark 0 2 29 -> 1
            reads 0 -> 2
            """);
    }

    private static void readsPlaces() {
        of("(of places that are no LEG all numbers are not)", """
            sheet 0 1 24 -> 24
            reads 0 -> 0
            leg 0 0 50 -> 0
            reads 0 -> 1
            leg 0 0 50 -> 1
            reads 0 -> 2
            sheet 0 1 2 -> 2
            reads 0 -> NONE
            sheet 0 1 3 -> 3
            reads 0 -> 2
            mark 0 2 NONE -> 1
            reads 0 -> NONE
            """);
        of("The first place (of numbers alone) at which a SHEET is not the PLACE of that LEG", """
            leg 0 59 50 -> 0
            leg 0 0 50 -> 1
            sheet 0 1 3 -> 3
            mark 0 0 NONE -> 1
            reads 0 -> 2
            mark 0 2 NONE -> 1
            reads 0 -> NONE
            mark 0 1 60 -> 1
            reads 0 -> 1
            mark 0 0 -1 -> 1
            reads 0 -> 0
            mark 0 0 59 -> 1
            reads 0 -> 1
            mark 0 0 NONE -> 1
            mark 0 1 NONE -> 1
            reads 0 -> NONE
            """);
    }

    // ---- promise 32

    private static void copy() {
        busy("BAD; NOTHING; KIND: they are not of one sort; INDEX: many is below 0, or it would go beyond their last places", """
            copy -1 0 0 0 1 -> BAD
            copy 4 0 0 0 1 -> BAD
            copy MIN 0 0 0 1 -> BAD
            copy MAX 0 0 0 1 -> BAD
            copy 0 0 -1 0 1 -> BAD
            copy 0 0 4 0 1 -> BAD
            copy 0 0 MIN 0 1 -> BAD
            copy 0 0 MAX 0 1 -> BAD
            copy 3 0 0 0 1 -> NOTHING
            copy 0 0 3 0 1 -> NOTHING
            copy 3 0 3 0 0 -> NOTHING
            copy 0 0 1 0 1 -> KIND
            copy 1 0 0 0 1 -> KIND
            copy 0 0 2 0 0 -> KIND
            copy 0 0 0 0 -1 -> INDEX
            copy 0 0 0 0 MIN -> INDEX
            copy 1 0 2 0 1 -> INDEX
            copy 2 0 1 0 1 -> INDEX
            # of several the one that stands first
            copy 4 0 3 0 -1 -> BAD
            copy 3 0 4 0 -1 -> BAD
            copy 3 0 0 0 -1 -> NOTHING
            copy 0 -1 3 0 1 -> NOTHING
            copy 0 0 1 0 -1 -> KIND
            copy 0 9 1 9 9 -> KIND
            copy 1 0 2 0 0 -> 0
            copy 2 0 1 4 0 -> 0
            copy 2 0 2 0 0 -> 0
            """);
    }

    private static void copyBounds() {
        Run run = of("(where none comes, it may begin right behind these)", """
            sheet 0 0 5 -> 5
            sheet 1 0 3 -> 3
            mark 0 0 1 -> 1
            mark 0 1 2 -> 1
            mark 0 2 3 -> 1
            mark 0 3 4 -> 1
            mark 0 4 5 -> 1
            # none: up to right behind the last places
            copy 0 4 1 2 0 -> 0
            copy 0 5 1 3 0 -> 0
            copy 0 6 1 3 0 -> INDEX
            copy 0 5 1 4 0 -> INDEX
            copy 0 -1 1 0 0 -> INDEX
            copy 0 0 1 -1 0 -> INDEX
            copy 0 MAX 1 0 0 -> INDEX
            copy 0 0 1 MAX 0 -> INDEX
            copy 0 MIN 1 0 0 -> INDEX
            copy 0 0 1 MIN 0 -> INDEX
            # one: the last places are the last
            copy 0 5 1 0 1 -> INDEX
            copy 0 0 1 3 1 -> INDEX
            copy 0 -1 1 0 1 -> INDEX
            copy 0 0 1 -1 1 -> INDEX
            copy 0 MAX 1 0 1 -> INDEX
            copy 0 0 1 MAX 1 -> INDEX
            # more: the last of them must be a place
            copy 0 3 1 0 3 -> INDEX
            copy 0 0 1 1 3 -> INDEX
            copy 0 0 1 0 4 -> INDEX
            copy 0 0 1 0 MAX -> INDEX
            copy 0 1 1 1 MAX -> INDEX
            copy 0 5 1 3 MAX -> INDEX
            copy 0 MAX 1 MAX MAX -> INDEX
            copy 0 4 1 2 1 -> 1
            """);
        row(run, 1, "0", "0", "5");
        run.line("copy 0 1 1 0 2 -> 2");
        row(run, 1, "2", "3", "5");
        run.line("copy 0 2 1 0 3 -> 3");
        row(run, 1, "3", "4", "5");
        run.line("copy 1 0 0 0 3 -> 3");
        row(run, 0, "3", "4", "5", "4", "5");
        Run most = of("So many places of a SHEET come to another one (or the same), as they were: many.", """
            sheet 0 1 24 -> 24
            sheet 1 1 24 -> 24
            mark 0 0 NONE -> 1
            mark 0 1 7 -> 1
            mark 0 23 -99999 -> 1
            mark 1 1 NONE -> 1
            copy 0 0 1 0 25 -> INDEX
            copy 0 0 1 1 24 -> INDEX
            copy 0 1 1 0 24 -> INDEX
            copy 0 0 1 0 24 -> 24
            """);
        String[] all = new String[24];
        java.util.Arrays.fill(all, "0");
        all[0] = "KIND";
        all[1] = "7";
        all[23] = "-99999";
        row(most, 1, all);
        row(most, 0, all);
    }

    private static void copySame() {
        String sentence = "So many places of a SHEET come to another one (or the same), as they were: many.";
        String scene = """
            sheet 0 1 4 -> 4
            mark 0 0 1 -> 1
            mark 0 1 NONE -> 1
            mark 0 2 3 -> 1
            mark 0 3 4 -> 1
            """;
        row(of(sentence, scene + "copy 0 0 0 1 3 -> 3"), 0, "1", "1", "KIND", "3");
        row(of(sentence, scene + "copy 0 1 0 0 3 -> 3"), 0, "KIND", "3", "4", "4");
        row(of(sentence, scene + "copy 0 0 0 0 4 -> 4"), 0, "1", "KIND", "3", "4");
        row(of(sentence, scene + "copy 0 0 0 2 2 -> 2"), 0, "1", "KIND", "1", "KIND");
        row(of(sentence, scene + "copy 0 0 0 1 4 -> INDEX"), 0, "1", "KIND", "3", "4");
        row(of(sentence, scene + "copy 0 4 0 4 0 -> 0"), 0, "1", "KIND", "3", "4");
    }

    // ---- promise 33

    private static void lay() {
        busy("what it held (0 .. 3). BAD: slot, thing, k; NOTHING: that SHEET is MISSING.", """
            lay -1 0 0 -> BAD
            lay 5 0 0 -> BAD
            lay MIN 0 0 -> BAD
            lay MAX 0 0 -> BAD
            lay 0 -1 0 -> BAD
            lay 0 4 0 -> BAD
            lay 0 MIN 0 -> BAD
            lay 0 MAX 0 -> BAD
            lay 0 1 -1 -> BAD
            lay 0 1 3 -> BAD
            lay 0 1 MIN -> BAD
            lay 0 1 MAX -> BAD
            lay 0 2 -1 -> BAD
            lay 0 2 4 -> BAD
            lay 0 2 MIN -> BAD
            lay 0 2 MAX -> BAD
            lay 0 2 3 -> NOTHING
            lay 2 2 3 -> NOTHING
            lay 4 2 3 -> NOTHING
            # of several the one that stands first
            lay 5 2 3 -> BAD
            lay -1 2 3 -> BAD
            # k of nothing and of a number may be any
            lay 3 0 MIN -> 0
            lay 3 0 MAX -> 0
            lay 3 3 MIN -> 0
            lay 3 3 MAX -> 3
            lay 3 3 NONE -> 3
            lay 3 1 0 -> 3
            lay 3 1 2 -> 1
            lay 3 2 0 -> 1
            lay 3 2 2 -> 2
            item 3 0 -> INDEX
            lay 3 0 -1 -> 2
            lay 4 3 5 -> 0
            lay 4 0 0 -> 3
            lay 0 0 0 -> 1
            lay 0 0 0 -> 0
            """);
    }

    private static void layForGood() {
        of("a LEG (as it is then, for good), a SHEET (a row of its own, as it was then), or a number", """
            leg 3 10 50 -> 0
            set 0 5 2 -> 0
            sheet 0 1 2 -> 2
            mark 0 0 NONE -> 1
            mark 0 1 5 -> 1
            lay 0 1 0 -> 0
            lay 1 2 0 -> 0
            lay 2 1 0 -> 0
            lay 3 2 0 -> 0
            ask 0 3 -> 104
            set 0 2 0 -> 50
            set 0 3 99 -> 0
            set 0 5 9 -> 2
            turns 0 5 -> 3
            ask 0 3 -> 104
            ask 0 5 -> KIND
            mark 0 1 6 -> 1
            mark 0 0 7 -> 1
            item 1 0 -> KIND
            item 1 1 -> 5
            sheet 0 0 9 -> 9
            item 1 0 -> KIND
            item 1 1 -> 5
            item 1 2 -> INDEX
            sheet 0 -1 0 -> 0
            item 1 1 -> 5
            # two slots hold a row each
            lay 1 0 0 -> 2
            item 3 1 -> 5
            keep -> 1
            lay 0 3 4 -> 1
            back -> 1
            rest 0 3 -> 1
            ask 2 1 -> 104
            """);
        // the leg in a slot is there even if there are none
        of("a LEG (as it is then, for good)", """
            keep -> 0
            leg 5 0 50 -> 0
            set 0 4 44 -> 0
            lay 4 1 0 -> 0
            back -> 0
            count 0 -> 0
            ask 4 5 -> 44
            ask 4 0 -> 44
            lay 4 1 0 -> BAD
            """);
    }

    // ---- promises 34 to 36

    private static void ask() {
        busy("WORTH of the LEG in a SLOT, taken for one of a KIND (0 .. 5). BAD; NOTHING; KIND: it is no LEG, or not of that KIND, nor of one under it.", """
            ask -1 0 -> BAD
            ask 5 0 -> BAD
            ask MIN 0 -> BAD
            ask MAX 0 -> BAD
            ask 0 -1 -> BAD
            ask 0 6 -> BAD
            ask 0 MIN -> BAD
            ask 0 MAX -> BAD
            ask 3 0 -> NOTHING
            ask 4 5 -> NOTHING
            ask 1 0 -> KIND
            ask 2 0 -> KIND
            ask 0 2 -> KIND
            ask 0 4 -> KIND
            ask 0 5 -> KIND
            ask 0 0 -> 120
            ask 0 1 -> 120
            ask 0 3 -> 120
            # of several the one that stands first
            ask 3 6 -> BAD
            ask 3 -1 -> BAD
            ask 1 6 -> BAD
            ask 2 -1 -> BAD
            ask 5 6 -> BAD
            """);
    }

    private static void askKinds() {
        int[] worths = {50, 53, 69, 106, 34, 30};
        String[] under = {"0", "0 1", "0 2", "0 1 3", "0 2 4", "0 5"};
        for (int kind = 0; kind < 6; kind++) {
            Run run = of("WORTH of the LEG in a SLOT, taken for one of a KIND (0 .. 5).", "").line("leg " + kind + " 0 50 -> 0").line("set 0 4 30 -> 0")
                .line("set 0 5 3 -> 0").line("lay 4 1 0 -> 0");
            for (int asked = 0; asked < 6; asked++) {
                run.line("ask 4 " + asked + " -> " + (under[kind].contains("" + asked) ? "" + worths[kind] : "KIND"));
            }
        }
    }

    private static void item() {
        busy("A place of the SHEET in a SLOT. BAD: slot; NOTHING; KIND: it is no SHEET; INDEX; KIND: NO NUMBER.", """
            item -1 0 -> BAD
            item 5 0 -> BAD
            item MIN 0 -> BAD
            item MAX 0 -> BAD
            item 3 0 -> NOTHING
            item 4 0 -> NOTHING
            item 0 0 -> KIND
            item 2 0 -> KIND
            item 1 -1 -> INDEX
            item 1 4 -> INDEX
            item 1 MIN -> INDEX
            item 1 MAX -> INDEX
            item 1 2 -> KIND
            item 1 0 -> 0
            item 1 3 -> 99999
            # of several the one that stands first
            item 5 -1 -> BAD
            item 3 -1 -> NOTHING
            item 0 -1 -> KIND
            item 2 99 -> KIND
            lay 4 2 2 -> 0
            item 4 0 -> INDEX
            item 4 -1 -> INDEX
            """);
    }

    private static void rest() {
        busy("The rest of the number in a SLOT by n. BAD: slot; NOTHING; KIND: it is no number; NO: n is 0.", """
            rest -1 3 -> BAD
            rest 5 3 -> BAD
            rest MIN 3 -> BAD
            rest MAX 3 -> BAD
            rest 3 3 -> NOTHING
            rest 4 3 -> NOTHING
            rest 0 3 -> KIND
            rest 1 3 -> KIND
            rest 2 0 -> NO
            rest 2 1 -> 0
            rest 2 -1 -> 0
            rest 2 76 -> 1
            rest 2 77 -> 0
            rest 2 78 -> 77
            rest 2 -76 -> 1
            rest 2 -78 -> 77
            rest 2 MAX -> 77
            rest 2 MIN -> 77
            # of several the one that stands first
            rest 5 0 -> BAD
            rest 3 0 -> NOTHING
            rest 0 0 -> KIND
            rest 1 0 -> KIND
            """);
    }

    private static void restEdges() {
        of("The rest of the number in a SLOT by n.", """
            lay 4 3 MIN -> 0
            rest 4 -1 -> 0
            rest 4 1 -> 0
            rest 4 MIN -> 0
            rest 4 MAX -> -1
            rest 4 10 -> -8
            rest 4 -10 -> -8
            rest 4 0 -> NO
            lay 4 3 MAX -> 3
            rest 4 MAX -> 0
            rest 4 MIN -> MAX
            rest 4 10 -> 7
            rest 4 -1 -> 0
            lay 4 3 -7 -> 3
            rest 4 3 -> -1
            rest 4 -3 -> -1
            rest 4 7 -> 0
            rest 4 8 -> -7
            lay 4 3 0 -> 3
            rest 4 5 -> 0
            rest 4 0 -> NO
            # a number that is one of the findings is a number
            lay 4 3 NONE -> 3
            """).line("rest 4 1000000000 -> -5").line("rest 4 MAX -> -1000000005");
    }
}
