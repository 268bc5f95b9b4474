/** What the tests share: answers that are due, and texts put on a tape. */
final class Due {
    private int wrong = 0;
    private int asked = 0;

    void is(String call, long got, long want) {
        asked++;
        if (got != want) {
            wrong++;
            System.out.println(call + " answered " + got + ", due is " + want);
        }
    }

    void isTrue(String what, boolean holds) {
        is(what, holds ? 1 : 0, 1);
    }

    /** Each field of a leg in turn: kind, place, sharp, tram, knee, holds. */
    void leg(CreaseLines x, int leg, int... want) {
        for (int what = 0; what < want.length; what++) {
            is("told(" + leg + ", " + what + ")", x.told(leg, what), want[what]);
        }
    }

    void end() {
        System.out.println(wrong == 0 ? asked + " answers are as due" : wrong + " of " + asked + " answers are not as due");
        if (wrong != 0) {
            System.exit(1);
        }
    }

    /** Puts a text on the tape, byte by byte, and nothing behind it. */
    static void put(CreaseLines x, String text) {
        for (int i = 0; i < text.length(); i += 12) {
            x.feed(four(text, i), four(text, i + 4), four(text, i + 8));
        }
        x.trim(text.length());
    }

    static int four(String text, int from) {
        int all = 0;
        for (int i = from; i < from + 4; i++) {
            all = all << 8 | (i < text.length() ? text.charAt(i) & 255 : 32);
        }
        return all;
    }

    static int text(CreaseLines x, String text) {
        put(x, text);
        return x.text();
    }
}
