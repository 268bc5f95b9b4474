/** The boundary cases of Terms 4 and of promises 23 to 27, each sentence by itself. */
public final class TextsBoundsTest {
    private static final Due due = new Due();
    private static final String[] KEYS = {"press", "fee", "fine"};
    private static final String[] NAMES = {"hokt", "pt", "sk"};

    public static void main(String[] args) {
        feed();
        feedBytes();
        trim();
        text();
        textsFull();
        tapeUsedUp();
        keys();
        names();
        numbers();
        longest();
        words();
        everyByte();
        blanks();
        theEnd();
        tests();
        openParentheses();
        openNots();
        eachByItself();
        behindFaults();
        loosestFirst();
        cuts();
        wraps();
        byNought();
        truth();
        toldLast();
        textTold();
        why();
        due.end();
    }

    private static Run of(String sentence, String lines) {
        return Run.of(due, sentence, lines);
    }

    private static Run busy(String sentence, String lines) {
        return Run.busy(due, sentence, lines);
    }

    /** One text on an object of its own; a fault below 0 is none. */
    private static void reads(String sentence, String text, int fault) {
        of(sentence, "leg 0 0 50 -> 0").line("says \"" + text + "\" -> " + (fault < 0 ? 0 : -100 - fault))
            .line("count 6 -> " + (fault < 0 ? 1 : 0)).line("count 8 -> 0");
    }

    // ---- promises 23 and 24

    private static void feed() {
        String sentence = "Twelve bytes come to THE TAPE, the highest of each number first: how many it has. FULL: it would have more than 96.";
        busy(sentence, """
            count 8 -> 12
            feed 0 0 0 -> 24
            feed MIN MAX -1 -> 36
            feed 1 2 3 -> 48
            feed 1 2 3 -> 60
            feed 1 2 3 -> 72
            feed 1 2 3 -> 84
            feed 1 2 3 -> 96
            feed 1 2 3 -> FULL
            feed 0 0 0 -> FULL
            count 8 -> 96
            trim 95 -> 95
            feed 1 2 3 -> FULL
            count 8 -> 95
            trim 85 -> 85
            feed 1 2 3 -> FULL
            trim 84 -> 84
            feed 1 2 3 -> 96
            trim 83 -> 83
            feed 1 2 3 -> 95
            trim 0 -> 0
            feed 1 2 3 -> 12
            """);
    }

    private static void feedBytes() {
        // 'fee ' '1234' '-p+5'
        of("the highest of each number first", """
            feed 1717921056 825373492 762325813 -> 12
            text -> 0
            fee -> 1239
            """);
        // bytes above 127 are signs: 'fee ' and 255
        of("the highest of each number first", "feed 1717921056 -1 0 -> 12").line("text -> -104");
        // a FULL tape keeps what it had: the last byte is the end of the text
        Run run = of("FULL: it would have more than 96.", "tape \"fee p" + "+1".repeat(45) + " \"");
        run.line("count 8 -> 96").line("feed 0 0 0 -> FULL").line("text -> 0").line("fee -> 45");
    }

    private static void trim() {
        busy("THE TAPE keeps its first n bytes: n. BAD.", """
            trim -1 -> BAD
            trim MIN -> BAD
            trim MAX -> BAD
            trim 13 -> BAD
            trim 97 -> BAD
            trim 12 -> 12
            count 8 -> 12
            trim 11 -> 11
            trim 12 -> BAD
            count 8 -> 11
            trim 1 -> 1
            trim 2 -> BAD
            trim 0 -> 0
            count 8 -> 0
            trim 1 -> BAD
            trim 0 -> 0
            """);
        // what was cut off does not come back
        of("THE TAPE keeps its first n bytes: n. BAD.", """
            tape "fee p+1234"
            trim 7 -> 7
            text -> 0
            fee -> 1
            """);
    }

    // ---- promise 25 and what a TEXT is

    private static void text() {
        busy("THE TAPE is a TEXT: its number. -100 less the place of its FAULT; FULL.", """
            text -> 2
            fine 1 -> 3360
            count 8 -> 0
            text -> -100
            says "" -> -100
            says " " -> -101
            says "x" -> -100
            says "fine" -> -104
            says "fine +" -> -105
            says "fine 1" -> 3
            """);
    }

    private static void textsFull() {
        Run run = of("TEXTS, 14 at most, numbered from 0", "");
        for (int i = 0; i < 13; i++) {
            run.line("says \"fee " + i + "\" -> " + i);
        }
        run.goes("""
            count 6 -> 13
            textTold 12 0 -> 1
            textTold 13 0 -> BAD
            says "fee 77" -> 13
            count 6 -> 14
            textTold 13 0 -> 1
            textTold 14 0 -> BAD
            says "fee 78" -> FULL
            says "press 0" -> FULL
            says "fine 0" -> FULL
            fee -> 77
            why 0 -> NONE
            why 1 -> 13
            why 2 -> NONE
            count 6 -> 14
            # of several the one that stands first
            says "fee 78+" -> -107
            says "" -> -100
            """);
        of("all can become as it is (again and again)", """
            keep -> 0
            says "fee 1" -> 0
            says "fee 2" -> 1
            back -> 0
            count 6 -> 0
            textTold 0 0 -> BAD
            says "fine 3" -> 0
            textTold 0 0 -> 2
            why 1 -> NONE
            """);
    }

    private static void tapeUsedUp() {
        String sentence = "an act that reads it uses it up, whatever it answers";
        of(sentence, """
            tape "fee 1"
            text -> 0
            count 8 -> 0
            tape "fee +"
            text -> -104
            count 8 -> 0
            text -> -100
            """);
        Run run = of(sentence, "");
        for (int i = 0; i < 14; i++) {
            run.line("says \"fee 1\" -> " + i);
        }
        run.goes("""
            tape "fee 1"
            count 8 -> 5
            text -> FULL
            count 8 -> 0
            feed 0 0 0 -> 12
            """);
    }

    private static void keys() {
        String sentence = "KEY: press | fee | fine";
        reads(sentence, "press 1", -1);
        reads(sentence, "fee 1", -1);
        reads(sentence, "fine 1", -1);
        for (String wrong : new String[] {"pres 1", "presss 1", "fe 1", "feee 1", "fin 1", "finee 1", "Fee 1", "FEE 1", "fees 1", "bress 1", "gee 1", "wine 1", "presz 1", "feb 1", "fint 1", "1 fee", "(fee 1)", "!fee 1", "p", "press1x", "h"}) {
            reads(sentence, wrong, wrong.startsWith("press1") ? 5 : 0);
        }
    }

    private static void names() {
        for (int key = 0; key < 3; key++) {
            for (char name = 'a'; name <= 'z'; name++) {
                boolean has = NAMES[key].indexOf(name) >= 0;
                reads("NAMES, each one letter: of press h HEAT, o HOLDS, k KNEE, t TRAM; of fee p PRESSED, t TWOS", KEYS[key] + " " + name, has ? -1 : KEYS[key].length() + 1);
            }
            String first = NAMES[key].substring(0, 1);
            reads("NAMES, each one letter", KEYS[key] + " " + first + first, KEYS[key].length() + 1);
            reads("NAMES, each one letter", KEYS[key] + " " + KEYS[key], KEYS[key].length() + 1);
            reads("NAMES, each one letter", KEYS[key] + " " + first.toUpperCase(), KEYS[key].length() + 1);
        }
    }

    private static void numbers() {
        String sentence = "PIECE: NUMBER (1 to 4 digits)";
        for (String number : new String[] {"0", "9", "10", "99", "100", "999", "1000", "9999", "0000", "0009"}) {
            reads(sentence, "fee " + number, -1);
            of(sentence, "says \"fee " + number + "\" -> 0").line("fee -> " + Integer.parseInt(number));
        }
        reads("a NUMBER of more than 4 digits", "fee 10000", 4);
        reads("a NUMBER of more than 4 digits", "fee 00001", 4);
        reads("a NUMBER of more than 4 digits", "fee 99999 +", 4);
        reads("a NUMBER of more than 4 digits", "fee 1+12345", 6);
        reads("a NUMBER of more than 4 digits", "fee (123456789012)", 5);
        reads("a NUMBER of more than 4 digits", "fee " + "1".repeat(92), 4);
        reads("a NUMBER of more than 4 digits", "fee 1234 5", 9);
    }

    private static void longest() {
        String sentence = "THE TAPE (96 bytes at most";
        String most = "fee p" + "+1".repeat(45);
        of(sentence, "says \"" + most + "\" -> 0").line("textTold 0 1 -> 46").line("fee -> 45");
        of(sentence, "says \"" + most + " \" -> 0").line("textTold 0 1 -> 46").line("fee -> 45");
        of(sentence, "says \" " + most + "\" -> 0").line("textTold 0 1 -> 46").line("fee -> 45");
        reads(sentence, most + "+", 96);
        reads(sentence, most + ")", 95);
        reads(sentence, " ".repeat(96), 96);
        reads(sentence, " ".repeat(93) + "fee", 96);
        reads(sentence, " ".repeat(91) + "fee p", -1);
        reads(sentence, " ".repeat(95) + "f", 95);
        reads(sentence, "f".repeat(96), 0);
        reads(sentence, "fee" + " ".repeat(92) + "p", -1);
        reads(sentence, "fee " + "!".repeat(8) + "p" + "|!!!!!p".repeat(11), -1);
        reads(sentence, "fee 1|1&1=1+1*(1|1&1=1+1*(1|1&1=1+1*(1|1&1=1+1*(1|1&1=1+1*(1|1&1=1+1*(1|1&1=1+1*(1)))))))", -1);
    }

    private static void words() {
        String sentence = "a word right behind another one needs one";
        reads(sentence, "fee1", 3);
        reads(sentence, "fee 1", -1);
        reads(sentence, "fee  1", -1);
        reads(sentence, "fee(1)", -1);
        reads(sentence, "fee!1", -1);
        reads(sentence, "feep", 0);
        reads(sentence, "fee1234", 3);
        reads(sentence, "fee12345", 3);
        reads(sentence, "fee 1p", 5);
        reads(sentence, "fee p1", 5);
        reads(sentence, "fee p 1", 6);
        reads(sentence, "fee 1 p", 6);
        reads(sentence, "fee p p", 6);
        reads(sentence, "fee 1+p", -1);
        reads(sentence, "fee p+1*p", -1);
        reads(sentence, "fee (p)1", 7);
        reads(sentence, "fee (p)p", 7);
        reads(sentence, "fee (p)(p)", 7);
    }

    /** Each byte behind a piece and in a piece's place: the signs, the blank, and nothing else. */
    private static void everyByte() {
        String sentence = "any other byte is a sign by itself";
        for (int b = 0; b < 256; b++) {
            char sign = (char) b;
            boolean letter = sign >= 'a' && sign <= 'z';
            boolean joins = "|&<=>+-*/".indexOf(sign) >= 0;
            reads(sentence, "fee p" + sign, sign == ' ' ? -1 : letter ? 4 : joins ? 6 : 5);
            reads(sentence, "fee p" + sign + "1", letter ? 4 : joins ? -1 : sign == ' ' ? 6 : 5);
            boolean piece = sign == 'p' || sign == 't' || (sign >= '0' && sign <= '9');
            boolean opens = sign == '!' || sign == '(' || sign == ' ';
            reads(sentence, "fee " + sign, piece ? -1 : opens ? 5 : 4);
            reads(sentence, sign + "fee p", sign == ' ' ? -1 : 0);
        }
    }

    private static void blanks() {
        String sentence = "Between words and signs, and at the ends, there may be blanks (byte 32)";
        reads(sentence, "  fee  (  p  +  !  1  )  *  2  ", -1);
        reads(sentence, "fee p ", -1);
        reads(sentence, " fee p", -1);
        reads(sentence, "fee 1 2", 6);
        reads(sentence, "f ee p", 0);
        reads(sentence, "fee\tp", 3);
        reads(sentence, "fee p\t", 5);
        reads(sentence, "fee\u00a0p", 3);
        reads(sentence, "fee \u0000", 4);
        // between the digits of one number there may be none
        reads(sentence, "fee 12 34", 7);
    }

    private static void theEnd() {
        String sentence = "the end (the place behind the last byte), if it comes too soon";
        reads(sentence, "", 0);
        reads(sentence, " ", 1);
        reads(sentence, "fee", 3);
        reads(sentence, "fee ", 4);
        reads(sentence, "fee   ", 6);
        reads(sentence, "fee !", 5);
        reads(sentence, "fee (", 5);
        reads(sentence, "fee (p", 6);
        reads(sentence, "fee (p ", 7);
        reads(sentence, "fee (p+", 7);
        reads(sentence, "fee ((p)", 8);
        reads(sentence, "fee p|", 6);
        reads(sentence, "fee p&", 6);
        reads(sentence, "fee p<", 6);
        reads(sentence, "fee p=", 6);
        reads(sentence, "fee p>", 6);
        reads(sentence, "fee p-", 6);
        reads(sentence, "fee p*", 6);
        reads(sentence, "fee p/ ", 7);
        reads(sentence, "fee p)", 5);
        reads(sentence, "fee ()", 5);
    }

    private static void tests() {
        String sentence = "TEST: SUM [ (< | = | >) SUM ]";
        for (String one : new String[] {"<", "=", ">"}) {
            reads(sentence, "fee 1" + one + "2", -1);
            for (String two : new String[] {"<", "=", ">"}) {
                reads(sentence, "fee 1" + one + "2" + two + "3", 7);
                reads(sentence, "fee 1" + one + "2+1" + two + "3", 9);
                reads(sentence, "fee (1" + one + "2)" + two + "3", -1);
                reads(sentence, "fee 1" + one + "(2" + two + "3)", -1);
                reads(sentence, "fee 1" + one + "(2" + two + "3)" + one + "4", 11);
                reads(sentence, "fee (1" + one + "2" + two + "3)", 8);
                reads(sentence, "fee 1" + one + "2&3" + two + "4", -1);
                reads(sentence, "fee 1" + one + "2|3" + two + "4", -1);
                reads(sentence, "fee 1" + one + "2&3" + two + "4" + one + "5", 11);
            }
            reads(sentence, "fee 1" + one + "!2", -1);
            reads(sentence, "fee 1" + one + one + "2", 6);
        }
    }

    private static void openParentheses() {
        String sentence = "the ninth ( that would be open within others";
        for (int deep = 7; deep <= 8; deep++) {
            reads(sentence, "fee " + "(".repeat(deep) + "p" + ")".repeat(deep), -1);
        }
        for (int deep = 9; deep <= 12; deep++) {
            reads(sentence, "fee " + "(".repeat(deep) + "p" + ")".repeat(deep), 12);
        }
        // one that is closed is open no more
        reads(sentence, "fee " + "(".repeat(7) + "(1)+(2)+(3)" + ")".repeat(7), -1);
        reads(sentence, "fee " + "(".repeat(8) + "1)+(2)+(3" + ")".repeat(8), -1);
        reads(sentence, "fee " + "(".repeat(8) + "1)+((3" + ")".repeat(9), 16);
        reads(sentence, "fee " + "(1)+".repeat(20) + "(2)", -1);
        reads(sentence, "fee " + "(1+".repeat(8) + "1" + ")".repeat(8), -1);
        reads(sentence, "fee " + "(1+".repeat(9) + "1" + ")".repeat(9), 28);
        reads(sentence, "fee " + "(".repeat(8) + "1" + ")".repeat(9), 21);
        reads(sentence, "fee " + "(".repeat(8) + "1" + ")".repeat(7), 20);
        // a fault that stands ahead of it counts
        reads(sentence, "fee +" + "(".repeat(9), 4);
    }

    private static void openNots() {
        String sentence = "the ninth ! likewise";
        for (int deep = 7; deep <= 8; deep++) {
            reads(sentence, "fee " + "!".repeat(deep) + "p", -1);
        }
        for (int deep = 9; deep <= 12; deep++) {
            reads(sentence, "fee " + "!".repeat(deep) + "p", 12);
        }
        reads(sentence, "fee " + "!".repeat(8) + "p+" + "!".repeat(8) + "p", -1);
        reads(sentence, "fee " + "!".repeat(8) + "p+" + "!".repeat(9) + "p", 22);
        reads(sentence, "fee " + "!p+".repeat(20) + "1", -1);
        reads(sentence, "fee " + "!".repeat(8) + "(p)+!1", -1);
        reads(sentence, "fee " + "!".repeat(8) + "(p+!1)", 15);
        reads(sentence, "fee " + "!".repeat(7) + "(p+!1)", -1);
        reads(sentence, "fee " + "!".repeat(7) + "(!p+!1+!!1)", 19);
        reads(sentence, "fee " + "! ".repeat(8) + "1", -1);
        reads(sentence, "fee " + "! ".repeat(9) + "1", 20);
        reads(sentence, "fee " + "!".repeat(8), 12);
    }

    private static void eachByItself() {
        String sentence = "the ninth ( that would be open within others, the ninth ! likewise, each by itself";
        reads(sentence, "fee " + "!(".repeat(8) + "p" + ")".repeat(8), -1);
        reads(sentence, "fee " + "(!".repeat(8) + "p" + ")".repeat(8), -1);
        reads(sentence, "fee " + "!(".repeat(8) + "!p" + ")".repeat(8), 20);
        reads(sentence, "fee " + "!(".repeat(8) + "(p)" + ")".repeat(8), 20);
        reads(sentence, "fee " + "!".repeat(8) + "(".repeat(8) + "p" + ")".repeat(8), -1);
        reads(sentence, "fee " + "(".repeat(8) + "!".repeat(8) + "p" + ")".repeat(8), -1);
        reads(sentence, "fee " + "(".repeat(8) + "!".repeat(9) + "p" + ")".repeat(8), 20);
        reads(sentence, "fee " + "!".repeat(8) + "(".repeat(9) + "p" + ")".repeat(9), 20);
    }

    /** What a text with a fault left open is not open in the next one. */
    private static void behindFaults() {
        String deep = "!(".repeat(8);
        of("an act that reads it uses it up, whatever it answers", "leg 0 0 50 -> 0")
            .line("says \"fee " + deep + "1<\" -> -122")
            .line("says \"fee " + deep + "1<2" + ")".repeat(8) + "\" -> 0").goes("""
            fee -> 1
            says "fee 1<" -> -106
            says "fee 1<2" -> 1
            fee -> 1
            says "fee 1+2*3+" -> -110
            says "fee 5" -> 2
            fee -> 5
            textTold 2 1 -> 1
            says "fee 1)" -> -105
            says "fee !!!!!!!!!" -> -112
            says "fee !!!!!!!!7" -> 3
            fee -> 1
            says "fee (((((((((" -> -112
            says "fee ((((((((7))))))))" -> 4
            fee -> 7
            says "fee (1<2" -> -108
            says "fee (1<2)<3" -> 5
            says "fee 8)" -> -105
            says "fee !" -> -105
            says "fee 7" -> 6
            fee -> 7
            says "fee 9-!" -> -107
            says "fee 7-2" -> 7
            fee -> 5
            # a word at the beginning needs no blank, whatever stood last
            says "fee 9" -> 8
            says "fee 9" -> 9
            """);
    }

    // ---- what a TEXT gives

    private static void loosestFirst() {
        String sentence = "E, the loosest first: OR: AND { | AND }; AND: TEST { & TEST }; TEST: SUM [ (< | = | >) SUM ]; SUM: TERM { (+ | -) TERM }; TERM: PIECE { (* | /) PIECE }";
        gives(sentence, "1|1&0", 1);
        gives(sentence, "0&1|1", 1);
        gives(sentence, "(1|1)&0", 0);
        gives(sentence, "0&(1|1)", 0);
        gives(sentence, "(0|1)*5", 5);
        gives(sentence, "2&2=2", 1);
        gives(sentence, "(2&2)=2", 0);
        gives(sentence, "0=0&0", 0);
        gives(sentence, "0=(0&0)", 1);
        gives(sentence, "1<1+1", 1);
        gives(sentence, "(1<1)+1", 1);
        gives(sentence, "0<1+1", 1);
        gives(sentence, "(0<1)+1", 2);
        gives(sentence, "2+3*4", 14);
        gives(sentence, "(2+3)*4", 20);
        gives(sentence, "2*3+4", 10);
        gives(sentence, "9-8/4", 7);
        gives(sentence, "9-3-2", 4);
        gives(sentence, "9-(3-2)", 8);
        gives(sentence, "9-3+2", 8);
        gives(sentence, "99/9/2", 5);
        gives(sentence, "99/(9/2)", 24);
        gives(sentence, "7/2*2", 6);
        gives(sentence, "2*7/2", 7);
        gives(sentence, "!0+1", 2);
        gives(sentence, "!0*5", 5);
        gives(sentence, "!1=0", 1);
        gives(sentence, "!(1=0)", 1);
        gives(sentence, "!0=0", 0);
    }

    private static void gives(String sentence, String text, int want) {
        of(sentence, """
            leg 0 0 7 -> 0
            set 0 4 3 -> 0
            """).line("says \"fine " + text + "\" -> 0").line("fine 0 -> " + want);
    }

    private static void cuts() {
        String sentence = "All numbers are whole; / cuts towards 0.";
        gives(sentence, "7/2", 3);
        gives(sentence, "8/2", 4);
        gives(sentence, "1/2", 0);
        gives(sentence, "(0-1)/2", 0);
        gives(sentence, "(0-2)/2", -1);
        gives(sentence, "(0-3)/2", -1);
        gives(sentence, "3/(0-2)", -1);
        gives(sentence, "(0-3)/(0-2)", 1);
        gives(sentence, "1/(0-2)", 0);
    }

    private static void wraps() {
        String sentence = "Ints wrap";
        String most = "(4096*4096*128-1)";
        String least = "(4096*4096*128)";
        gives(sentence, most, Integer.MAX_VALUE);
        gives(sentence, least, Integer.MIN_VALUE);
        gives(sentence, most + "+0", Integer.MAX_VALUE);
        gives(sentence, most + "+1", Integer.MIN_VALUE);
        gives(sentence, least + "-1", Integer.MAX_VALUE);
        gives(sentence, "0-" + least, Integer.MIN_VALUE);
        gives(sentence, least + "*(0-1)", Integer.MIN_VALUE);
        gives(sentence, least + "/(0-1)", Integer.MIN_VALUE);
        gives(sentence, most + "*2", -2);
        gives(sentence, most + "*" + most, 1);
        gives(sentence, least + "*2", 0);
        gives(sentence, least + "<" + most, 1);
        gives(sentence, most + "<" + least, 0);
        gives(sentence, most + ">" + least, 1);
        gives(sentence, least + "=" + least, 1);
    }

    private static void byNought() {
        String sentence = "/ is 0 by 0";
        gives(sentence, "1/0", 0);
        gives(sentence, "0/0", 0);
        gives(sentence, "0/1", 0);
        gives(sentence, "s/(k-3)", 0);
        gives(sentence, "s/(k-2)", 7);
        gives(sentence, "s/(k-4)", -7);
        gives(sentence, "5+9/0", 5);
        gives(sentence, "9/0/0", 0);
        gives(sentence, "(4096*4096*128)/0", 0);
    }

    private static void truth() {
        String sentence = "tests, & | ! give 1 or 0 (what is not 0 is true; both sides are worked out)";
        gives(sentence, "6<7", 1);
        gives(sentence, "7<7", 0);
        gives(sentence, "8<7", 0);
        gives(sentence, "6=7", 0);
        gives(sentence, "7=7", 1);
        gives(sentence, "8=7", 0);
        gives(sentence, "6>7", 0);
        gives(sentence, "7>7", 0);
        gives(sentence, "8>7", 1);
        gives(sentence, "0&0", 0);
        gives(sentence, "0&1", 0);
        gives(sentence, "1&0", 0);
        gives(sentence, "2&4", 1);
        gives(sentence, "0|0", 0);
        gives(sentence, "0|7", 1);
        gives(sentence, "7|0", 1);
        gives(sentence, "7|8", 1);
        gives(sentence, "(0-1)&(0-1)", 1);
        gives(sentence, "(0-1)|0", 1);
        gives(sentence, "!0", 1);
        gives(sentence, "!1", 0);
        gives(sentence, "!2", 0);
        gives(sentence, "!(0-1)", 0);
        gives(sentence, "!!7", 1);
        gives(sentence, "!!!!!!!!7", 1);
        gives(sentence, "!!!!!!!7", 0);
    }

    private static void toldLast() {
        of("Of a KEY that TEXT counts that was told last.", """
            leg 0 0 50 -> 0
            says "fee 1" -> 0
            says "fee 2" -> 1
            fee -> 2
            why 1 -> 1
            says "fine 3" -> 2
            why 1 -> 1
            fee -> 2
            fine 0 -> 3
            # one with a fault is none
            says "fee 4 4" -> -106
            fee -> 2
            keep -> 1
            says "fee 5" -> 3
            fee -> 5
            back -> 1
            fee -> 2
            why 1 -> 1
            """);
    }

    // ---- promises 26 and 27

    private static void textTold() {
        busy("Of a TEXT: what 0 KEY (0 press, 1 fee, 2 fine), 1 how many NUMBERS and NAMES it has. BAD.", """
            textTold -1 0 -> BAD
            textTold 2 0 -> BAD
            textTold MIN 0 -> BAD
            textTold MAX 0 -> BAD
            textTold 0 -1 -> BAD
            textTold 0 2 -> BAD
            textTold 0 MIN -> BAD
            textTold 0 MAX -> BAD
            textTold 2 2 -> BAD
            textTold 0 0 -> 0
            textTold 0 1 -> 2
            textTold 1 0 -> 1
            textTold 1 1 -> 3
            text -> 2
            textTold 2 0 -> 2
            textTold 2 1 -> 3
            textTold 3 0 -> BAD
            says "fine !!(1)" -> 3
            textTold 3 1 -> 1
            says "fine 1234" -> 4
            textTold 4 1 -> 1
            """);
    }

    private static void why() {
        busy("The TEXT that counts for a KEY. BAD; NONE.", """
            why -1 -> BAD
            why 3 -> BAD
            why MIN -> BAD
            why MAX -> BAD
            why 0 -> 0
            why 1 -> 1
            why 2 -> NONE
            text -> 2
            why 2 -> 2
            """);
    }
}
