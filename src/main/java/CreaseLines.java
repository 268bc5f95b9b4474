import java.util.Arrays;

/** Legs, their creases, and what days, rain and an iron make of them. */
public final class CreaseLines {
    public static final int BAD = -1000000001, NO = -1000000002, FULL = -1000000003, NONE = -1000000005, NOTHING = -1000000011, KIND = -1000000012, INDEX = -1000000013, SIZE = -1000000014;

    private static final int MOST_LEGS = 10;
    private static final int MOST_TEXTS = 14;
    private static final int MOST_BYTES = 96;
    private static final int MOST_PLACES = 24;
    private static final int MOST_WAITING = 60;
    private static final int SHEETS = 4;
    private static final int SLOTS = 5;
    private static final int ROUND = 60;
    private static final int HIGHEST = 99;
    private static final int MOST_HOLDS = 9;
    private static final int LAST_DAY = 9999;
    private static final int LONGEST_LOOK = 200;
    private static final int FARTHEST_FLOAT = 99999;

    private static final int KINDS = 6;
    private static final int LEG = 0;
    private static final int WORSTED = 1;
    private static final int FLANNEL = 2;
    private static final int WAXED = 3;
    private static final int SLEPT = 4;
    private static final int TWEED = 5;
    /** The kind that each kind stands under; -1 above LEG. */
    private static final int[] ABOVE = {-1, LEG, LEG, WORSTED, FLANNEL, LEG};

    private static final int RULES = 4;
    private static final int RAIN = 0;
    private static final int FEEL = 1;
    private static final int CARE = 2;
    private static final int HEAT = 3;
    private static final int[] MOST_OF_RULE = {100, 3, 99, 99};

    private static final int KEYS = 3;
    private static final int PRESS = 0;
    private static final int FEE = 1;
    private static final int FINE = 2;

    private static final int SHORTS = 0;
    private static final int FLOATS = 1;
    private static final int MISSING = -1;

    private static final int HOLDS_NOTHING = 0;
    private static final int HOLDS_LEG = 1;
    private static final int HOLDS_SHEET = 2;
    private static final int HOLDS_NUMBER = 3;

    private final Closet now = new Closet();
    private final Closet image = new Closet();
    /** What is only thought happens here; it is used again by each call. */
    private final Closet thought = new Closet();
    private boolean imageKept = false;
    /** For each leg, how far its places are from those of a sheet. */
    private final int[] differs = new int[MOST_LEGS];

    private final int[] tape = new int[MOST_BYTES];
    private int tapeLength = 0;
    private final Reader reader = new Reader();

    private final Sheet[] sheets = new Sheet[SHEETS];
    private final Slot[] slots = new Slot[SLOTS];

    private final int[] waiting = new int[MOST_WAITING];
    private int waitingCount = 0;

    public CreaseLines() {
        for (int i = 0; i < SHEETS; i++) {
            sheets[i] = new Sheet();
        }
        for (int i = 0; i < SLOTS; i++) {
            slots[i] = new Slot();
        }
    }

    // ---- legs

    public int leg(int kind, int place, int sharp) {
        if (!isKind(kind) || !isWithin(place, 0, ROUND - 1) || !isWithin(sharp, 0, HIGHEST)) {
            return BAD;
        }
        if (now.size >= MOST_LEGS) {
            return FULL;
        }
        now.addLeg(kind, place, sharp);
        return now.size - 1;
    }

    public int told(int leg, int what) {
        if (!now.hasLeg(leg)) {
            return BAD;
        }
        Leg one = now.legs[leg];
        switch (what) {
            case 0: return one.kind;
            case 1: return one.place;
            case 2: return one.sharp;
            case 3: return one.tram;
            case 4: return one.knee;
            case 5: return one.holds;
            case 6: return now.takenBy(one);
            case 7: return one.loses();
            case 8: return one.bags();
            case 9: return one.worth();
            default: return BAD;
        }
    }

    public int as(int leg, int kind) {
        if (!now.hasLeg(leg) || !isKind(kind)) {
            return BAD;
        }
        return now.legs[leg].isOf(kind) ? now.legs[leg].place : KIND;
    }

    public int turns(int leg, int kind) {
        if (!now.hasLeg(leg) || !isKind(kind)) {
            return BAD;
        }
        int was = now.legs[leg].kind;
        now.legs[leg].kind = kind;
        return was;
    }

    public int set(int leg, int what, int v) {
        if (!now.hasLeg(leg) || !isWithin(what, 1, 5) || !isWithin(v, 0, mostOf(what))) {
            return BAD;
        }
        int was = told(leg, what);
        Leg one = now.legs[leg];
        switch (what) {
            case 1: one.place = v; break;
            case 2: one.sharp = v; break;
            case 3: one.tram = v; break;
            case 4: one.knee = v; break;
            default: one.holds = v; break;
        }
        return was;
    }

    private static int mostOf(int what) {
        if (what == 1) {
            return ROUND - 1;
        }
        return what == 5 ? MOST_HOLDS : HIGHEST;
    }

    public int irons(int leg, int d) {
        if (!now.hasLeg(leg) || !isWithin(d, -3, 3)) {
            return BAD;
        }
        return now.press(now.legs[leg], d) ? 1 : 0;
    }

    public int rule(int what, int v) {
        if (!isWithin(what, 0, RULES - 1) || !isWithin(v, 0, MOST_OF_RULE[what])) {
            return BAD;
        }
        int was = now.rules[what];
        now.rules[what] = v;
        return was;
    }

    public int deal(int n) {
        if (!isWithin(n, 1, MOST_LEGS)) {
            return BAD;
        }
        int coming = Math.min(n, MOST_LEGS - now.size);
        for (int i = 0; i < coming; i++) {
            int kind = now.draw() % KINDS;
            int place = now.draw() % ROUND;
            int sharp = now.draw() % (HIGHEST + 1);
            now.addLeg(kind, place, sharp);
        }
        return coming;
    }

    public int seed(int v) {
        int was = now.z;
        now.z = v;
        return was;
    }

    // ---- days

    public int days(int n) {
        if (!isWithin(n, 1, 100)) {
            return BAD;
        }
        int before = now.pressed;
        now.passDays(now.daysLeft(n));
        return now.pressed - before;
    }

    public int closet(int what) {
        switch (what) {
            case 0: return now.pressed;
            case 1: return now.twos;
            case 2: return now.soaked;
            case 3: return now.sharpOfAll();
            case 4: return now.doubled();
            case 5: return now.size == 0 ? NONE : now.dullest();
            default: return BAD;
        }
    }

    // ---- what will be

    public int behind(int n, int what) {
        if (!isWithin(n, 0, 100) || what < 0 || (what > 2 && !now.hasLeg(what - 3))) {
            return BAD;
        }
        Closet then = beginThought();
        then.passDays(n);
        switch (what) {
            case 0: return then.pressed;
            case 1: return then.twos;
            case 2: return Integer.bitCount(then.doubled());
            default: return then.legs[what - 3].sharp;
        }
    }

    public int dulls(int leg, int v) {
        if (!now.hasLeg(leg) || !isWithin(v, 0, HIGHEST)) {
            return BAD;
        }
        Closet then = beginThought();
        for (int day = 0; day <= LONGEST_LOOK; day++) {
            if (then.legs[leg].sharp < v) {
                return day;
            }
            then.passDay();
        }
        return NONE;
    }

    public int doubles(int leg) {
        if (!now.hasLeg(leg)) {
            return BAD;
        }
        Closet then = beginThought();
        for (int day = 0; day <= LONGEST_LOOK; day++) {
            if (then.legs[leg].tram > 0) {
                return day;
            }
            then.passDay();
        }
        return NONE;
    }

    public int wax(int n) {
        if (!isWithin(n, 0, 20)) {
            return BAD;
        }
        int waxedNow = now.waxed();
        int sets = 1 << now.size;
        for (int many = 0; many <= now.size; many++) {
            for (int chosen = 0; chosen < sets; chosen++) {
                // one that is WAXED already changes nothing, so the fewest are without it
                if (Integer.bitCount(chosen) == many && (chosen & waxedNow) == 0) {
                    Closet then = beginThought();
                    then.waxThese(chosen);
                    then.passDays(n);
                    if (!then.hasDull()) {
                        return chosen;
                    }
                }
            }
        }
        return NONE;
    }

    public int iron(int n, int v) {
        if (!isWithin(n, 0, 30) || !isWithin(v, 0, 990)) {
            return BAD;
        }
        for (int heat = 0; heat <= MOST_OF_RULE[HEAT]; heat++) {
            Closet then = beginThought();
            then.rules[HEAT] = heat;
            then.passDays(n);
            if (then.sharpOfAll() >= v) {
                return heat;
            }
        }
        return NONE;
    }

    public int first(int n, int what) {
        if (!isWithin(n, 1, 60) || !isWithin(what, 0, 1)) {
            return BAD;
        }
        if (now.size == 0) {
            return NONE;
        }
        int best = 0;
        int most = -1;
        for (int i = 0; i < now.size; i++) {
            Closet then = beginThought();
            then.press(then.legs[i], 0);
            then.passDays(n);
            int sharp = then.sharpOfAll();
            if (sharp > most) {
                best = i;
                most = sharp;
            }
        }
        return what == 0 ? best : most;
    }

    public int becomes(int leg, int n, int what) {
        if (!now.hasLeg(leg) || !isWithin(n, 1, 60) || !isWithin(what, 0, 1)) {
            return BAD;
        }
        int best = 0;
        int most = -1;
        for (int kind = 0; kind < KINDS; kind++) {
            Closet then = beginThought();
            then.legs[leg].kind = kind;
            then.passDays(n);
            int sharp = then.sharpOfAll();
            if (sharp > most) {
                best = kind;
                most = sharp;
            }
        }
        return what == 0 ? best : most;
    }

    public int like(int sheet, int what) {
        if (!isSheet(sheet) || !isWithin(what, 0, 1)) {
            return BAD;
        }
        if (sheets[sheet].isMissing()) {
            return NOTHING;
        }
        if (now.size == 0) {
            return NONE;
        }
        sumDifferences(sheets[sheet]);
        int best = 0;
        for (int i = 1; i < now.size; i++) {
            if (differs[i] < differs[best]) {
                best = i;
            }
        }
        return what == 0 ? best : differs[best];
    }

    private void sumDifferences(Sheet row) {
        Closet then = beginThought();
        Arrays.fill(differs, 0);
        for (int k = 0; k < row.size; k++) {
            for (int i = 0; i < then.size && row.isNumber(k); i++) {
                differs[i] += Math.abs(then.legs[i].place - row.places[k]);
            }
            then.passDay();
        }
    }

    public int fee() {
        return now.feeGiven();
    }

    public int fine(int leg) {
        return now.hasLeg(leg) ? now.fineGiven(now.legs[leg]) : BAD;
    }

    // ---- texts

    public int feed(int a, int b, int c) {
        if (tapeLength > MOST_BYTES - 12) {
            return FULL;
        }
        feedFour(a);
        feedFour(b);
        feedFour(c);
        return tapeLength;
    }

    private void feedFour(int bytes) {
        for (int shift = 24; shift >= 0 && tapeLength < MOST_BYTES; shift -= 8) {
            tape[tapeLength] = bytes >>> shift & 255;
            tapeLength++;
        }
    }

    public int trim(int n) {
        if (!isWithin(n, 0, tapeLength)) {
            return BAD;
        }
        tapeLength = n;
        return n;
    }

    public int text() {
        int fault = reader.faultOf(tape, tapeLength);
        tapeLength = 0;
        if (fault >= 0) {
            return -100 - fault;
        }
        if (now.textCount >= MOST_TEXTS) {
            return FULL;
        }
        now.addText(reader.textRead());
        return now.textCount - 1;
    }

    public int textTold(int text, int what) {
        if (!isWithin(text, 0, now.textCount - 1) || !isWithin(what, 0, 1)) {
            return BAD;
        }
        return what == 0 ? now.texts[text].key : now.texts[text].pieces;
    }

    public int why(int key) {
        return isWithin(key, 0, KEYS - 1) ? now.counting[key] : BAD;
    }

    // ---- sheets, slots

    public int sheet(int sheet, int sort, int n) {
        if (!isSheet(sheet) || !isWithin(sort, MISSING, FLOATS) || (sort != MISSING && n > MOST_PLACES)) {
            return BAD;
        }
        if (sort == MISSING) {
            sheets[sheet].begin(MISSING, 0);
            return 0;
        }
        if (n < 0) {
            return SIZE;
        }
        sheets[sheet].begin(sort, n);
        return n;
    }

    public int mark(int sheet, int place, int v) {
        if (!isSheet(sheet)) {
            return BAD;
        }
        Sheet row = sheets[sheet];
        if (row.isMissing()) {
            return NOTHING;
        }
        if (!row.hasPlace(place)) {
            return INDEX;
        }
        if (row.sort == SHORTS) {
            if (v == NONE) {
                return KIND;
            }
            row.places[place] = (short) v;
            return 1;
        }
        if (v != NONE && !isWithin(v, -FARTHEST_FLOAT, FARTHEST_FLOAT)) {
            return BAD;
        }
        row.places[place] = v;
        return 1;
    }

    public int pour(int sheet) {
        if (!isSheet(sheet)) {
            return BAD;
        }
        Sheet row = sheets[sheet];
        if (row.isMissing()) {
            return NOTHING;
        }
        int otherwise = 0;
        for (int i = 0; i < now.size && i < row.size; i++) {
            Leg one = now.legs[i];
            int sharp = row.isNumber(i) ? heldWithin(row.places[i]) : one.sharp;
            if (sharp != one.sharp) {
                one.sharp = sharp;
                otherwise++;
            }
        }
        return otherwise;
    }

    public int reads(int sheet) {
        if (!isSheet(sheet)) {
            return BAD;
        }
        Sheet row = sheets[sheet];
        if (row.isMissing()) {
            return NOTHING;
        }
        for (int i = 0; i < row.size; i++) {
            if (row.isNumber(i) && (!now.hasLeg(i) || row.places[i] != now.legs[i].place)) {
                return i;
            }
        }
        return NONE;
    }

    public int copy(int from, int place, int to, int at, int many) {
        if (!isSheet(from) || !isSheet(to)) {
            return BAD;
        }
        Sheet source = sheets[from];
        Sheet target = sheets[to];
        if (source.isMissing() || target.isMissing()) {
            return NOTHING;
        }
        if (source.sort != target.sort) {
            return KIND;
        }
        if (!source.hasPlaces(place, many) || !target.hasPlaces(at, many)) {
            return INDEX;
        }
        System.arraycopy(source.places, place, target.places, at, many);
        return many;
    }

    public int lay(int slot, int thing, int k) {
        if (!isSlot(slot) || !isWithin(thing, HOLDS_NOTHING, HOLDS_NUMBER)
                || (thing == HOLDS_LEG && !now.hasLeg(k)) || (thing == HOLDS_SHEET && !isSheet(k))) {
            return BAD;
        }
        if (thing == HOLDS_SHEET && sheets[k].isMissing()) {
            return NOTHING;
        }
        Slot one = slots[slot];
        int held = one.thing;
        one.thing = thing;
        switch (thing) {
            case HOLDS_LEG: one.leg.takeOver(now.legs[k]); break;
            case HOLDS_SHEET: one.row.takeOver(sheets[k]); break;
            case HOLDS_NUMBER: one.number = k; break;
            default: break;
        }
        return held;
    }

    public int ask(int slot, int kind) {
        if (!isSlot(slot) || !isKind(kind)) {
            return BAD;
        }
        Slot one = slots[slot];
        if (one.thing == HOLDS_NOTHING) {
            return NOTHING;
        }
        if (one.thing != HOLDS_LEG || !one.leg.isOf(kind)) {
            return KIND;
        }
        return one.leg.worth();
    }

    public int item(int slot, int place) {
        if (!isSlot(slot)) {
            return BAD;
        }
        Slot one = slots[slot];
        if (one.thing == HOLDS_NOTHING) {
            return NOTHING;
        }
        if (one.thing != HOLDS_SHEET) {
            return KIND;
        }
        if (!one.row.hasPlace(place)) {
            return INDEX;
        }
        return one.row.isNumber(place) ? one.row.places[place] : KIND;
    }

    public int rest(int slot, int n) {
        if (!isSlot(slot)) {
            return BAD;
        }
        Slot one = slots[slot];
        if (one.thing == HOLDS_NOTHING) {
            return NOTHING;
        }
        if (one.thing != HOLDS_NUMBER) {
            return KIND;
        }
        return n == 0 ? NO : one.number % n;
    }

    // ---- rows, images

    public int tell(int v) {
        if (waitingCount >= MOST_WAITING) {
            return FULL;
        }
        waiting[waitingCount] = v;
        waitingCount++;
        return waitingCount;
    }

    public int check(int n) {
        int many = waitingCount;
        waitingCount = 0;
        if (!isWithin(n, 1, 30)) {
            return BAD;
        }
        if (!imageKept) {
            return NO;
        }
        thought.takeOver(image);
        int due = 2 * thought.daysLeft(n);
        int right = 0;
        while (right < due && right < many) {
            if (right % 2 == 0) {
                thought.passDay();
            }
            int wanted = right % 2 == 0 ? thought.pressed : thought.sharpOfAll();
            if (waiting[right] != wanted) {
                return 1 + right;
            }
            right++;
        }
        return due == many ? 0 : 1 + right;
    }

    public int keep() {
        image.takeOver(now);
        imageKept = true;
        return now.size;
    }

    public int back() {
        if (!imageKept) {
            return NO;
        }
        now.takeOver(image);
        return now.size;
    }

    public int count(int what) {
        switch (what) {
            case 0: return now.size;
            case 1: return now.day;
            case 2: return now.rules[RAIN];
            case 3: return now.rules[FEEL];
            case 4: return now.rules[CARE];
            case 5: return now.rules[HEAT];
            case 6: return now.textCount;
            case 7: return waitingCount;
            case 8: return tapeLength;
            case 9: return now.z;
            default: return BAD;
        }
    }

    // ---- what the calls share

    private Closet beginThought() {
        thought.takeOver(now);
        return thought;
    }

    private static boolean isWithin(int v, int least, int most) {
        return v >= least && v <= most;
    }

    private static boolean isKind(int kind) {
        return isWithin(kind, 0, KINDS - 1);
    }

    private static boolean isSheet(int sheet) {
        return isWithin(sheet, 0, SHEETS - 1);
    }

    private static boolean isSlot(int slot) {
        return isWithin(slot, 0, SLOTS - 1);
    }

    private static int heldWithin(int v) {
        return Math.max(0, Math.min(HIGHEST, v));
    }

    /** One leg; the closets and the slots each have legs of their own. */
    private static final class Leg {
        int kind;
        int place;
        int sharp;
        int tram;
        int knee;
        int holds;

        void begin(int newKind, int newPlace, int newSharp) {
            kind = newKind;
            place = newPlace;
            sharp = newSharp;
            tram = 0;
            knee = 0;
            holds = 0;
        }

        void takeOver(Leg other) {
            kind = other.kind;
            place = other.place;
            sharp = other.sharp;
            tram = other.tram;
            knee = other.knee;
            holds = other.holds;
        }

        boolean isOf(int wanted) {
            int one = kind;
            for (int step = 0; step < KINDS && one >= 0; step++) {
                if (one == wanted) {
                    return true;
                }
                one = ABOVE[one];
            }
            return false;
        }

        int takes(int plain) {
            int worsted = Math.min(HIGHEST, plain + 10);
            int flannel = plain / 2;
            switch (kind) {
                case WORSTED: return worsted;
                case WAXED: return Math.min(HIGHEST, worsted + 2 * holds);
                case FLANNEL: return flannel;
                case SLEPT: return Math.max(30, flannel);
                case TWEED: return 20;
                default: return plain;
            }
        }

        int loses() {
            int plain = 5;
            int worsted = plain - 2;
            int flannel = plain + knee / 10;
            switch (kind) {
                case WORSTED: return worsted;
                case WAXED: return worsted / 2;
                case FLANNEL: return flannel;
                case SLEPT: return 2 * flannel;
                case TWEED: return 1;
                default: return plain;
            }
        }

        int bags() {
            int plain = 6;
            int flannel = 2 * plain;
            switch (kind) {
                case WORSTED:
                case WAXED: return plain - 1;
                case FLANNEL: return flannel;
                case SLEPT: return flannel - 4;
                case TWEED: return plain - 4;
                default: return plain;
            }
        }

        int worth() {
            int plain = Math.max(0, sharp - tram);
            int worsted = plain + holds;
            int flannel = HIGHEST - knee;
            switch (kind) {
                case WORSTED: return worsted;
                case WAXED: return 2 * worsted;
                case FLANNEL: return flannel;
                case SLEPT: return flannel / 2;
                case TWEED: return knee;
                default: return plain;
            }
        }
    }

    /** All that an image keeps: the legs, the rules, the texts, the days and z. */
    private static final class Closet {
        final Leg[] legs = new Leg[MOST_LEGS];
        int size = 0;
        final int[] rules = {20, 1, 40, 60};
        final Text[] texts = new Text[MOST_TEXTS];
        int textCount = 0;
        /** For each key the number of the text that counts, or NONE. */
        final int[] counting = {NONE, NONE, NONE};
        int pressed = 0;
        int twos = 0;
        int soaked = 0;
        int day = 0;
        int z = 1;
        private final int[] names = new int[4];
        private final int[] stack = new int[MOST_BYTES];

        Closet() {
            for (int i = 0; i < MOST_LEGS; i++) {
                legs[i] = new Leg();
            }
        }

        void takeOver(Closet other) {
            size = other.size;
            for (int i = 0; i < size; i++) {
                legs[i].takeOver(other.legs[i]);
            }
            System.arraycopy(other.rules, 0, rules, 0, RULES);
            textCount = other.textCount;
            for (int i = 0; i < textCount; i++) {
                texts[i] = other.texts[i];
            }
            System.arraycopy(other.counting, 0, counting, 0, KEYS);
            pressed = other.pressed;
            twos = other.twos;
            soaked = other.soaked;
            day = other.day;
            z = other.z;
        }

        boolean hasLeg(int leg) {
            return leg >= 0 && leg < size;
        }

        void addLeg(int kind, int place, int sharp) {
            if (size < MOST_LEGS) {
                legs[size].begin(kind, place, sharp);
                size++;
            }
        }

        void addText(Text text) {
            if (textCount < MOST_TEXTS) {
                texts[textCount] = text;
                counting[text.key] = textCount;
                textCount++;
            }
        }

        int draw() {
            z = z * 1103515245 + 12345;
            return z >>> 8;
        }

        int daysLeft(int n) {
            return Math.min(n, LAST_DAY - day);
        }

        void passDays(int n) {
            for (int i = 0; i < n; i++) {
                passDay();
            }
        }

        void passDay() {
            if (size == 0) {
                draw();
                day++;
                return;
            }
            int worn = day % size;
            wear(worn);
            if (draw() % 100 < rules[RAIN]) {
                soak(legs[worn]);
            }
            Leg dull = legs[dullest()];
            if (dull.sharp < rules[CARE]) {
                press(dull, draw() % 7 - 3);
            }
            day++;
        }

        private void wear(int worn) {
            for (int i = 0; i < size; i++) {
                Leg one = legs[i];
                if (i == worn) {
                    one.sharp = Math.max(0, one.sharp - one.loses());
                    one.knee = Math.min(HIGHEST, one.knee + one.bags());
                } else {
                    one.knee = Math.max(0, one.knee - 2);
                }
            }
        }

        private void soak(Leg worn) {
            worn.sharp /= 2;
            worn.tram /= 2;
            soaked++;
        }

        boolean press(Leg one, int beside) {
            int sharp = takenBy(one);
            boolean along = Math.abs(beside) <= rules[FEEL];
            if (along) {
                one.tram /= 2;
                one.holds = Math.min(MOST_HOLDS, one.holds + 1);
            } else {
                one.tram = one.sharp;
                one.place = Math.floorMod(one.place + beside, ROUND);
                one.holds = 1;
                twos++;
            }
            one.sharp = sharp;
            one.knee /= 2;
            pressed++;
            return along;
        }

        int takenBy(Leg one) {
            int given = rules[HEAT] + 3 * one.holds;
            Text law = lawOf(PRESS);
            if (law != null) {
                names[0] = rules[HEAT];
                names[1] = one.holds;
                names[2] = one.knee;
                names[3] = one.tram;
                given = law.value(names, stack);
            }
            return one.takes(heldWithin(given));
        }

        int feeGiven() {
            Text law = lawOf(FEE);
            if (law == null) {
                return pressed;
            }
            names[0] = pressed;
            names[1] = twos;
            return law.value(names, stack);
        }

        int fineGiven(Leg one) {
            Text law = lawOf(FINE);
            if (law == null) {
                return one.sharp;
            }
            names[0] = one.sharp;
            names[1] = one.knee;
            return law.value(names, stack);
        }

        private Text lawOf(int key) {
            return counting[key] == NONE ? null : texts[counting[key]];
        }

        /** Asked only where there are legs. */
        int dullest() {
            int best = 0;
            for (int i = 1; i < size; i++) {
                if (legs[i].sharp < legs[best].sharp) {
                    best = i;
                }
            }
            return best;
        }

        int sharpOfAll() {
            int together = 0;
            for (int i = 0; i < size; i++) {
                together += legs[i].sharp;
            }
            return together;
        }

        int doubled() {
            int found = 0;
            for (int i = 0; i < size; i++) {
                if (legs[i].tram > 0) {
                    found |= 1 << i;
                }
            }
            return found;
        }

        int waxed() {
            int found = 0;
            for (int i = 0; i < size; i++) {
                if (legs[i].kind == WAXED) {
                    found |= 1 << i;
                }
            }
            return found;
        }

        void waxThese(int chosen) {
            for (int i = 0; i < size; i++) {
                if ((chosen >> i & 1) != 0) {
                    legs[i].kind = WAXED;
                }
            }
        }

        boolean hasDull() {
            return size > 0 && legs[dullest()].sharp < rules[CARE];
        }
    }

    /**
     * A law in the order in which it is worked out, both sides ahead of their sign:
     * a number is itself, a name FIRST_NAME and its place, a sign its byte below 0.
     */
    private static final class Text {
        static final int FIRST_NAME = 10000;

        final int key;
        final int pieces;
        private final int[] steps;

        Text(int key, int pieces, int[] steps) {
            this.key = key;
            this.pieces = pieces;
            this.steps = steps;
        }

        int value(int[] names, int[] stack) {
            int top = 0;
            for (int i = 0; i < steps.length; i++) {
                int step = steps[i];
                if (step == -'!') {
                    if (top >= 1) {
                        stack[top - 1] = stack[top - 1] == 0 ? 1 : 0;
                    }
                } else if (step < 0) {
                    if (top >= 2) {
                        stack[top - 2] = joined(-step, stack[top - 2], stack[top - 1]);
                        top--;
                    }
                } else if (top < stack.length) {
                    int name = step - FIRST_NAME;
                    stack[top] = name >= 0 && name < names.length ? names[name] : step;
                    top++;
                }
            }
            return top >= 1 ? stack[0] : 0;
        }

        private static int joined(int sign, int a, int b) {
            switch (sign) {
                case '|': return a != 0 || b != 0 ? 1 : 0;
                case '&': return a != 0 && b != 0 ? 1 : 0;
                case '<': return a < b ? 1 : 0;
                case '=': return a == b ? 1 : 0;
                case '>': return a > b ? 1 : 0;
                case '+': return a + b;
                case '-': return a - b;
                case '*': return a * b;
                default: return b == 0 ? 0 : a / b;
            }
        }
    }

    /**
     * Reads a tape as a text. Signs that wait for their right side are piled up,
     * so that nothing calls itself, however deep the text is.
     */
    private static final class Reader {
        private static final int END = 0;
        private static final int LETTERS = 1;
        private static final int DIGITS = 2;
        private static final int SIGN = 3;
        /** A word that lacks the blank ahead of it: nothing takes it. */
        private static final int GLUED = 4;
        private static final int MOST_OPEN = 8;
        private static final int OF_TESTS = 3;

        private int[] bytes = new int[0];
        private int length;
        private int sort;
        private int start;
        private int end;

        private final int[] steps = new int[MOST_BYTES];
        private int stepCount;
        private final int[] pile = new int[MOST_BYTES];
        private int pileHeight;
        /** Whether the test that is being read within so many ( has its sign already. */
        private final boolean[] compared = new boolean[MOST_OPEN + 1];
        private int open;
        private int nots;
        private boolean wantsPiece;
        private int key;
        private int pieces;

        /** The place of the fault, or -1. */
        int faultOf(int[] tape, int tapeLength) {
            begin(tape, tapeLength);
            nextWord();
            key = keyOfWord();
            if (key < 0) {
                return start;
            }
            nextWord();
            for (int i = 0; i <= length && !isWhole(); i++) {
                boolean taken = wantsPiece ? takesPiece() : takesSign();
                if (!taken) {
                    return start;
                }
                nextWord();
            }
            unpile(1);
            return -1;
        }

        /** The text that was read last, where there was no fault. */
        Text textRead() {
            return new Text(key, pieces, Arrays.copyOf(steps, stepCount));
        }

        private void begin(int[] tape, int tapeLength) {
            bytes = tape;
            length = Math.min(tapeLength, tape.length);
            sort = SIGN;
            start = 0;
            end = 0;
            stepCount = 0;
            pileHeight = 0;
            compared[0] = false;
            open = 0;
            nots = 0;
            wantsPiece = true;
            pieces = 0;
        }

        private boolean isWhole() {
            return sort == END && !wantsPiece && open == 0;
        }

        private void nextWord() {
            boolean behindWord = sort == LETTERS || sort == DIGITS;
            start = end;
            while (start < length && bytes[start] == ' ') {
                start++;
            }
            if (start >= length) {
                sort = END;
                end = start;
                return;
            }
            boolean blankAhead = start > end;
            sort = sortOf(bytes[start]);
            end = start + 1;
            if (sort == SIGN) {
                return;
            }
            while (end < length && sortOf(bytes[end]) == sort) {
                end++;
            }
            if (behindWord && !blankAhead) {
                sort = GLUED;
            }
        }

        private static int sortOf(int b) {
            if (b >= 'a' && b <= 'z') {
                return LETTERS;
            }
            return b >= '0' && b <= '9' ? DIGITS : SIGN;
        }

        private int keyOfWord() {
            if (isWord("press")) {
                return PRESS;
            }
            if (isWord("fee")) {
                return FEE;
            }
            return isWord("fine") ? FINE : -1;
        }

        private boolean isWord(String word) {
            if (sort != LETTERS || end - start != word.length()) {
                return false;
            }
            for (int i = 0; i < word.length(); i++) {
                if (bytes[start + i] != word.charAt(i)) {
                    return false;
                }
            }
            return true;
        }

        private boolean takesPiece() {
            switch (sort) {
                case DIGITS: return takesNumber();
                case LETTERS: return takesName();
                case SIGN: return takesOpening();
                default: return false;
            }
        }

        private boolean takesNumber() {
            if (end - start > 4) {
                return false;
            }
            int number = 0;
            for (int i = start; i < end; i++) {
                number = number * 10 + bytes[i] - '0';
            }
            endLeaf(number);
            return true;
        }

        private boolean takesName() {
            int name = namesOfKey().indexOf((char) bytes[start]);
            if (end - start != 1 || name < 0) {
                return false;
            }
            endLeaf(Text.FIRST_NAME + name);
            return true;
        }

        private String namesOfKey() {
            switch (key) {
                case PRESS: return "hokt";
                case FEE: return "pt";
                default: return "sk";
            }
        }

        private boolean takesOpening() {
            int sign = bytes[start];
            if (sign == '!' && nots < MOST_OPEN) {
                nots++;
                putOnPile(sign);
                return true;
            }
            if (sign == '(' && open < MOST_OPEN) {
                open++;
                compared[open] = false;
                putOnPile(sign);
                return true;
            }
            return false;
        }

        private void endLeaf(int step) {
            pieces++;
            addStep(step);
            endPiece();
        }

        /** A piece is whole, and so is each ! right ahead of it. */
        private void endPiece() {
            wantsPiece = false;
            while (pileHeight > 0 && pile[pileHeight - 1] == '!') {
                pileHeight--;
                nots--;
                addStep(-'!');
            }
        }

        private boolean takesSign() {
            if (sort != SIGN) {
                return false;
            }
            int sign = bytes[start];
            if (sign == ')') {
                return takesClosing();
            }
            int strength = strengthOf(sign);
            if (strength == 0 || (strength == OF_TESTS && compared[open])) {
                return false;
            }
            if (strength <= OF_TESTS) {
                compared[open] = strength == OF_TESTS;
            }
            unpile(strength);
            putOnPile(sign);
            wantsPiece = true;
            return true;
        }

        private boolean takesClosing() {
            if (open == 0) {
                return false;
            }
            unpile(1);
            if (pileHeight > 0) {
                pileHeight--;
            }
            open--;
            endPiece();
            return true;
        }

        /** How tightly a sign between two sides binds; 0 for any other. */
        private static int strengthOf(int sign) {
            switch (sign) {
                case '|': return 1;
                case '&': return 2;
                case '<':
                case '=':
                case '>': return OF_TESTS;
                case '+':
                case '-': return 4;
                case '*':
                case '/': return 5;
                default: return 0;
            }
        }

        /** Both sides of all piled signs that bind as tightly, or more so, are read. */
        private void unpile(int strength) {
            while (pileHeight > 0 && strengthOf(pile[pileHeight - 1]) >= strength) {
                pileHeight--;
                addStep(-pile[pileHeight]);
            }
        }

        private void putOnPile(int sign) {
            if (pileHeight < MOST_BYTES) {
                pile[pileHeight] = sign;
                pileHeight++;
            }
        }

        private void addStep(int step) {
            if (stepCount < MOST_BYTES) {
                steps[stepCount] = step;
                stepCount++;
            }
        }
    }

    /** A row of whole numbers; NONE stands for no number, which no place of either sort can be. */
    private static final class Sheet {
        int sort = MISSING;
        int size = 0;
        final int[] places = new int[MOST_PLACES];

        void begin(int newSort, int newSize) {
            sort = newSort;
            size = newSize;
            Arrays.fill(places, 0);
        }

        void takeOver(Sheet other) {
            sort = other.sort;
            size = other.size;
            System.arraycopy(other.places, 0, places, 0, MOST_PLACES);
        }

        boolean isMissing() {
            return sort == MISSING;
        }

        boolean hasPlace(int place) {
            return place >= 0 && place < size;
        }

        boolean hasPlaces(int place, int many) {
            return place >= 0 && many >= 0 && place <= size && many <= size - place;
        }

        boolean isNumber(int place) {
            return hasPlace(place) && places[place] != NONE;
        }
    }

    private static final class Slot {
        int thing = HOLDS_NOTHING;
        final Leg leg = new Leg();
        final Sheet row = new Sheet();
        int number = 0;
    }
}
