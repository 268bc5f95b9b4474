/** Promises 23 to 27: the tape and the texts. */
public final class TextsTest {
    private static final int BAD = CreaseLines.BAD;
    private static final Due due = new Due();

    public static void main(String[] args) {
        feed();
        trim();
        texts();
        faults();
        depths();
        afterFaults();
        values();
        textTold();
        why();
        full();
        due.end();
    }

    private static void feed() {
        CreaseLines x = new CreaseLines();
        for (int i = 1; i <= 8; i++) {
            due.is("feed", x.feed(0, -1, i), 12 * i);
        }
        due.is("feed, the ninth", x.feed(0, 0, 0), CreaseLines.FULL);
        due.is("bytes", x.count(8), 96);
        x.trim(85);
        due.is("feed, one too many", x.feed(0, 0, 0), CreaseLines.FULL);
        x.trim(84);
        due.is("feed, just", x.feed(0, 0, 0), 96);
        CreaseLines y = new CreaseLines();
        y.feed(0x66656520, 0x31323334, 0x2d702020);
        due.is("the highest byte first", y.text(), 0);
        due.is("fee 1234-p", y.fee(), 1234);
    }

    private static void trim() {
        CreaseLines x = new CreaseLines();
        due.is("trim, 1 of none", x.trim(1), BAD);
        due.is("trim, 0 of none", x.trim(0), 0);
        Due.put(x, "fee p+12345678");
        due.is("trim, more than there are", x.trim(15), BAD);
        due.is("trim, -1", x.trim(-1), BAD);
        due.is("bytes", x.count(8), 14);
        due.is("trim, all", x.trim(14), 14);
        due.is("trim", x.trim(7), 7);
        due.is("bytes", x.count(8), 7);
        due.is("text", x.text(), 0);
        due.is("fee p+1", x.fee(), 1);
    }

    private static void takes(String text) {
        CreaseLines x = new CreaseLines();
        due.is("'" + text + "'", Due.text(x, text), 0);
        due.is("the tape is used up", x.count(8), 0);
        due.is("a text", x.count(6), 1);
    }

    private static void refuses(String text, int fault) {
        CreaseLines x = new CreaseLines();
        due.is("'" + text + "'", Due.text(x, text), -100 - fault);
        due.is("the tape is used up", x.count(8), 0);
        due.is("no text", x.count(6), 0);
    }

    private static void texts() {
        takes("press h");
        takes("press(h)");
        takes("press!h");
        takes("   fee   p   ");
        takes("fine 0000");
        takes("fine 9999|s&k<1+2*3/4-5");
        takes("press h+o+k+t");
        takes("fee p=t");
        takes("fee (p<t)<(t>p)");
        takes("fee p<t&t<p|p<t");
        takes("press ! ! ( h ) * ! 3");
    }

    private static void faults() {
        refuses("", 0);
        refuses("    ", 4);
        refuses("press", 5);
        refuses("press  ", 7);
        refuses("  prest h", 2);
        refuses("pressh", 0);
        refuses("Press h", 0);
        refuses("press3", 5);
        refuses("press 3h", 7);
        refuses("press h3", 7);
        refuses("press h 3", 8);
        refuses("press hh", 6);
        refuses("press 12345", 6);
        refuses("press 00000", 6);
        refuses("press h+12345", 8);
        refuses("press h+", 8);
        refuses("press h+  ", 10);
        refuses("press h++h", 8);
        refuses("press -h", 6);
        refuses("press (h", 8);
        refuses("press h)", 7);
        refuses("press ()", 7);
        refuses("press (h+)", 9);
        refuses("press h<1<2", 9);
        refuses("press h<1+1>2", 11);
        refuses("press (h=1=2)", 10);
        refuses("press (h<1)<(h>1)=1", 17);
        refuses("press h!", 7);
        refuses("press h(o)", 7);
        refuses("press s", 6);
        refuses("press p", 6);
        refuses("fee h", 4);
        refuses("fee s", 4);
        refuses("fine t", 5);
        refuses("fine p", 5);
        refuses("press h fee p", 8);
        refuses("press press", 6);
        refuses("press h%2", 7);
        refuses("press h\t", 7);
        refuses("press h\u0000", 7);
        refuses("press \u00ff", 6);
        refuses("press h||o", 8);
        refuses("press 1 2", 8);
        refuses("press H", 6);
        refuses("3press", 0);
        refuses("(press h)", 0);
        refuses("pressz h", 0);
        refuses("pressa h", 0);
        refuses("press 10009", 6);
        refuses("press 90000", 6);
        refuses("press 0`", 7);
        refuses("press 0{", 7);
        refuses("press 0:", 7);
    }

    private static void depths() {
        takes("fee " + "(".repeat(8) + "p" + ")".repeat(8));
        refuses("fee " + "(".repeat(9) + "p" + ")".repeat(9), 12);
        takes("fee " + "!".repeat(8) + "p");
        refuses("fee " + "!".repeat(9) + "p", 12);
        takes("fee " + "!(".repeat(8) + "p" + ")".repeat(8));
        refuses("fee " + "!(".repeat(8) + "!p" + ")".repeat(8), 20);
        refuses("fee " + "(!".repeat(8) + "(p)" + ")".repeat(8), 20);
        takes("fee " + "(p)*".repeat(12) + "!p+" + "!p+".repeat(12) + "1");
        takes("fee " + "!".repeat(8) + "p+" + "!".repeat(8) + "t");
        takes("fee " + "!".repeat(8) + "(p)+" + "!".repeat(8) + "t");
        takes("fee " + "(".repeat(8) + "p" + ")".repeat(8) + "*" + "(".repeat(8) + "t" + ")".repeat(8));
        String longest = "fee p" + "+1".repeat(45) + " ";
        takes(longest);
        CreaseLines x = new CreaseLines();
        Due.text(x, longest);
        due.is("all of it counts", x.fee(), 45);
        due.is("numbers and names", x.textTold(0, 1), 46);
        String signs = "fee " + "1|1&1<1+1*(".repeat(8) + "p" + ")".repeat(3);
        refuses(signs, 96);
        refuses("fee " + "1|0&1<1+1*(".repeat(7) + "9" + ")".repeat(6), 88);
    }

    /** What a faulty text left open is not open in the next one. */
    private static void afterFaults() {
        CreaseLines x = new CreaseLines();
        String deep = "!(".repeat(8);
        due.is("a fault", Due.text(x, "fee " + deep + "1<"), -122);
        due.is("a text", Due.text(x, "fee " + deep + "1<2" + ")".repeat(8)), 0);
        due.is("a fault", Due.text(x, "fee 1<("), -107);
        due.is("a text", Due.text(x, "fee 1<2"), 1);
        due.is("a text", Due.text(x, "fee 5"), 2);
        due.is("a word needs no blank at the beginning", Due.text(x, "fee 6"), 3);
        due.is("it counts", x.fee(), 6);
        due.is("numbers and names", x.textTold(3, 1), 1);
    }

    private static void gives(String text, int want) {
        CreaseLines x = new CreaseLines();
        x.leg(0, 0, 7);
        x.set(0, 4, 3);
        due.is("'" + text + "'", Due.text(x, "fine " + text), 0);
        due.is("'" + text + "' gives", x.fine(0), want);
    }

    private static void values() {
        gives("s", 7);
        gives("k", 3);
        gives("0042", 42);
        gives("1+2*3", 7);
        gives("(1+2)*3", 9);
        gives("10-3-2", 5);
        gives("100/7/2", 7);
        gives("2*3/4*5", 5);
        gives("(0-7)/2", 0 - 3);
        gives("s/0", 0);
        gives("s/(k-3)", 0);
        gives("s>k", 1);
        gives("s<k", 0);
        gives("s<7", 0);
        gives("s>7", 0);
        gives("s=7", 1);
        gives("s=k", 0);
        gives("1+1<1", 0);
        gives("1<1+1", 1);
        gives("5&3", 1);
        gives("5&0", 0);
        gives("0|9", 1);
        gives("0|0", 0);
        gives("1|1&0", 1);
        gives("(1|1)&0", 0);
        gives("!0", 1);
        gives("!5", 0);
        gives("!!5", 1);
        gives("!0+1", 2);
        gives("!(0+1)", 0);
        gives("2*!0*3", 6);
        gives("!s=0", 1);
        gives("0-1&1", 1);
        gives("(2=2)=0", 0);
        gives("9999*9999*9999", 9999 * 9999 * 9999);
        gives("0-9999*9999*99", -9999 * 9999 * 99);
        gives("1<2&3>2|0", 1);
        gives("8-(4-(2-1))", 5);
        int least = Integer.MIN_VALUE;
        gives("0-4096*4096*128/(0-1)", 0 - least / -1);
        gives("(0-4096*4096*128)/(0-1)", least / -1);
        press();
    }

    private static void press() {
        CreaseLines x = LegsTest.allKinds();
        for (int i = 0; i < 6; i++) {
            x.set(i, 3, 8);
            x.set(i, 4, 6);
            x.set(i, 5, 4);
        }
        Due.text(x, "press h/10+o*5-k+t*2");
        // 6 and 20, less 6, and 16: PLAIN is 36
        int[] want = {36, 46, 18, 54, 30, 20};
        for (int i = 0; i < 6; i++) {
            due.is("TAKES by a text", x.told(i, 6), want[i]);
        }
        Due.text(x, "press 0-1");
        due.is("held at 0", x.told(0, 6), 0);
        due.is("held ahead of the 10", x.told(1, 6), 10);
        Due.text(x, "press 9999");
        due.is("held at 99", x.told(0, 6), 99);
        due.is("half of what is held", x.told(2, 6), 49);
        Due.text(x, "press k");
        x.irons(0, 3);
        due.is("KNEE as it was ahead", x.told(0, 2), 6);
    }

    private static void textTold() {
        CreaseLines x = new CreaseLines();
        due.is("no text", x.textTold(0, 0), BAD);
        Due.text(x, "fine s+1*(k-22)");
        Due.text(x, "press 1");
        Due.text(x, "fee !p|t");
        due.is("KEY fine", x.textTold(0, 0), 2);
        due.is("KEY press", x.textTold(1, 0), 0);
        due.is("KEY fee", x.textTold(2, 0), 1);
        due.is("four", x.textTold(0, 1), 4);
        due.is("one", x.textTold(1, 1), 1);
        due.is("two", x.textTold(2, 1), 2);
        due.is("textTold, text 3", x.textTold(3, 0), BAD);
        due.is("textTold, text -1", x.textTold(-1, 0), BAD);
        due.is("textTold, what 2", x.textTold(0, 2), BAD);
        due.is("textTold, what -1", x.textTold(0, -1), BAD);
    }

    private static void why() {
        CreaseLines x = new CreaseLines();
        due.is("none", x.why(1), CreaseLines.NONE);
        Due.text(x, "fee 5");
        due.is("the first", x.why(1), 0);
        Due.text(x, "press 5");
        Due.text(x, "fee 6");
        due.is("the last", x.why(1), 2);
        due.is("it counts", x.fee(), 6);
        due.is("press", x.why(0), 1);
        Due.text(x, "fee 7+");
        due.is("a fault counts not", x.why(1), 2);
        due.is("none of fine", x.why(2), CreaseLines.NONE);
        due.is("why(3)", x.why(3), BAD);
        due.is("why(-1)", x.why(-1), BAD);
    }

    private static void full() {
        CreaseLines x = new CreaseLines();
        for (int i = 0; i < 14; i++) {
            due.is("text", Due.text(x, "fee " + i), i);
        }
        due.is("a fault ahead of FULL", Due.text(x, "fee +"), -104);
        due.is("FULL", Due.text(x, "fee 99"), CreaseLines.FULL);
        due.is("the tape is used up", x.count(8), 0);
        due.is("the last counts", x.fee(), 13);
        due.is("fourteen", x.count(6), 14);
    }
}
