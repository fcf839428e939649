import java.util.NoSuchElementException;

/** A likeness by the pound: how white and how dark each man of a colony comes out on a plate with so much room. */
public final class LikenessPound {
    public static final int NONE = -1;

    private static final int MEN = 7;
    private static final int DEEDS = 10;
    private static final int TIMES = 9;
    private static final int HEAVIEST_DEED = 40;
    private static final int MOST_LOAN = 40;
    private static final int MOST_OWED = 99;
    private static final int LAST_YEAR = 200;
    private static final int YEARS_AT_ONCE = 30;
    private static final int YEARS_OF_ODDS = 10;
    private static final int SEEDS_OF_ODDS = 30;
    private static final int CAREER_YEARS = 10;
    private static final int SITS_AGAIN_AT = 60;
    private static final int ACTS_KEPT = 8;
    private static final int IMAGES = 2;

    private static final int TAPE_BYTES = 940;
    private static final int FED_BYTES = 20;
    private static final int COLONY_BYTES = 900;
    private static final int BOOK_BYTES = 400;
    private static final int SENTENCE_BYTES = 200;
    private static final int BOOK_LINES = 40;
    private static final int SENTENCE_ONES = 20;
    private static final int ONES_WITHIN = 8;

    private static final int IS_FAINT = 0;
    private static final int IS_SEEN = 1;
    private static final int IS_FULL = 2;

    private static final int CANNOT_COME = 1;
    private static final int WRONG_NUMBER = 2;
    private static final int WRONG_NAME = 3;
    private static final int TOO_MANY = 4;

    private static final int BOOK_NOT_READ = -1000;
    private static final int FEWER_YEARS_LEFT = 61;

    /** The words that no name may be, each with a blank behind it; the numbers below are their places here. */
    private static final String WORDS = "man deed good crime did kin owes plate faint does lends returns borrows pays sits year or and not seen full taken lending has akin white dark age number ";
    private static final int WORD_COUNT = 29;
    private static final int NO_WORD = -1;
    private static final int W_MAN = 0;
    private static final int W_DEED = 1;
    private static final int W_GOOD = 2;
    private static final int W_CRIME = 3;
    private static final int W_DID = 4;
    private static final int W_KIN = 5;
    private static final int W_OWES = 6;
    private static final int W_PLATE = 7;
    private static final int W_FAINT = 8;
    private static final int W_DOES = 9;
    private static final int W_LENDS = 10;
    private static final int W_RETURNS = 11;
    private static final int W_BORROWS = 12;
    private static final int W_PAYS = 13;
    private static final int W_SITS = 14;
    private static final int W_YEAR = 15;
    private static final int W_OR = 16;
    private static final int W_AND = 17;
    private static final int W_NOT = 18;
    private static final int W_SEEN = 19;
    private static final int W_FULL = 20;
    private static final int W_TAKEN = 21;
    private static final int W_LENDING = 22;
    private static final int W_HAS = 23;
    private static final int W_AKIN = 24;
    private static final int W_WHITE = 25;
    private static final int W_DARK = 26;
    private static final int W_AGE = 27;
    private static final int W_NUMBER = 28;

    private final Tape tape = new Tape();
    private final ColonyText colonyText = new ColonyText();
    private final BookText bookText = new BookText();
    private final Past past = new Past();
    private final Lenders lenders = new Lenders();
    private final Sums sums = new Sums();
    private final StringBuilder captionText = new StringBuilder();
    private final int[] mayRow = new int[DEEDS];
    private final int[] careerRow = new int[DEEDS];
    private final World[] images = new World[IMAGES];
    private final boolean[] imageKept = new boolean[IMAGES];
    private World world = new World();
    private World draft = new World();
    private int latestFault;
    private int latestHelp = NONE;
    /** How many deeds the colony had of which the row was told, whatever colony is read afterwards; 0 ahead of any. */
    private int mayDeeds;
    private int careerDeeds;

    public LikenessPound() {
        for (int k = 0; k < IMAGES; k++) {
            images[k] = new World();
        }
    }

    public int feed(int a, int b, int c, int d, int e) {
        if (tape.length > TAPE_BYTES - FED_BYTES) {
            return NONE;
        }
        tape.put(a);
        tape.put(b);
        tape.put(c);
        tape.put(d);
        tape.put(e);
        return tape.length;
    }

    public boolean end(int n) {
        if (n < 0 || n > tape.length) {
            return false;
        }
        tape.length = n;
        return true;
    }

    public int colony() {
        boolean good = colonyText.read(tape, draft.colony, draft.life);
        tape.length = 0;
        latestFault = tape.faultKind;
        if (!good) {
            return -1 - tape.faultPlace;
        }
        World old = world;
        world = draft;
        draft = old;
        world.sentence.clear();
        past.clear();
        return colonyText.lines;
    }

    public int fault() {
        return latestFault;
    }

    public int man(int m, int what) throws NoSuchElementException {
        if (!isMan(m) || what < 0 || what > 7) {
            throw new NoSuchElementException();
        }
        switch (what) {
            case 0: return world.life.age[m];
            case 1: return world.whiteOf(m);
            case 2: return world.darkOf(m);
            case 3: return world.howIs(m);
            case 4: return world.life.lentTo[m];
            case 5: return world.life.lentDeed[m];
            case 6: return world.life.owedBy(m);
            default: return world.life.sat[m];
        }
    }

    public int did(int m, int d) {
        return isMan(m) && isDeed(d) ? world.life.did[m * DEEDS + d] : NONE;
    }

    public int deed(int d, int what) {
        if (!isDeed(d)) {
            return NONE;
        }
        switch (what) {
            case 0: return world.colony.weight[d];
            case 1: return world.colony.crime[d] ? 1 : 0;
            case 2: return world.life.didByAll(d);
            default: return NONE;
        }
    }

    public int owes(int m, int k) {
        return isMan(m) && isMan(k) ? world.life.owed[m * MEN + k] : NONE;
    }

    public int kin(int m) {
        return isMan(m) ? world.colony.kin[m] : NONE;
    }

    public int cell(int m, int k) {
        if (!isMan(m) || k < 0 || k >= world.colony.room) {
            return NONE;
        }
        if (k < world.whiteOf(m)) {
            return 1;
        }
        return k >= world.colony.room - world.darkOf(m) ? 2 : 0;
    }

    public int kept(int m, int what) {
        if (!isMan(m) || world.life.sat[m] == 0) {
            return NONE;
        }
        switch (what) {
            case 0: return world.life.keptWhite[m];
            case 1: return world.life.keptDark[m];
            case 2: return world.life.keptYear[m];
            case 3: return world.life.keptAge[m];
            default: return NONE;
        }
    }

    public int now(int what) {
        switch (what) {
            case 0: return world.life.year;
            case 1: return world.whoIs(IS_FAINT);
            case 2: return world.whoIs(IS_SEEN);
            case 3: return world.whoIs(IS_FULL);
            case 4: return world.whoLends();
            case 5: return world.allWhite();
            case 6: return world.allDark();
            case 7: return world.life.sittings();
            default: return NONE;
        }
    }

    public int act(int m, int d) {
        if (!isMan(m) || !isDeed(d)) {
            return NONE;
        }
        past.prepare(world.life);
        return undoableIfDone(world.life.doDeed(m, d));
    }

    public int lend(int m, int k, int d) {
        if (!isMan(m) || !isMan(k) || !isDeed(d)) {
            return NONE;
        }
        past.prepare(world.life);
        return undoableIfDone(world.lendDeed(m, k, d));
    }

    public int back(int m) {
        if (!isMan(m)) {
            return NONE;
        }
        past.prepare(world.life);
        return undoableIfDone(world.life.takeBack(m));
    }

    public int borrow(int m, int k, int n) {
        if (!isMan(m) || !isMan(k) || !isLoan(n)) {
            return NONE;
        }
        past.prepare(world.life);
        return undoableIfDone(world.life.borrowOf(m, k, n));
    }

    public int pay(int m, int k, int n) {
        if (!isMan(m) || !isMan(k) || !isLoan(n)) {
            return NONE;
        }
        past.prepare(world.life);
        return undoableIfDone(world.life.payTo(m, k, n));
    }

    public int sit(int m) {
        if (!isMan(m)) {
            return NONE;
        }
        past.prepare(world.life);
        return undoableIfDone(world.sitDown(m));
    }

    public int years(int n) {
        if (n < 1 || n > YEARS_AT_ONCE) {
            return NONE;
        }
        past.prepare(world.life);
        int gone = 0;
        while (gone < n && world.passYear()) {
            gone++;
        }
        return undoableIfAny(gone);
    }

    public int undo() {
        return past.takeLatest(world.life);
    }

    public int family(int m) {
        return isMan(m) ? world.colony.familyOf(m) : NONE;
    }

    public int balance(int some, int others) {
        int all = world.colony.allMen();
        if ((some & others) != 0 || ((some | others) & ~all) != 0) {
            return NONE;
        }
        int difference = world.weightOfAll(some) - world.weightOfAll(others);
        if (difference == 0) {
            return 0;
        }
        return difference > 0 ? 1 : 2;
    }

    public int help(int m) {
        if (!isMan(m)) {
            return NONE;
        }
        int bits = lenders.fewestFor(world, m);
        if (bits == NONE) {
            return NONE;
        }
        latestHelp = bits;
        return Integer.bitCount(bits);
    }

    public int helping() {
        return latestHelp;
    }

    public long may() {
        boolean asTold = tape.length == 2;
        tape.length = 0;
        if (!asTold) {
            return NONE;
        }
        int white = tape.bytes[0];
        int dark = tape.bytes[1];
        long rows = countSide(white, false) * countSide(dark, true);
        if (rows > 0) {
            clearRow(mayRow);
            pickSide(white, false);
            pickSide(dark, true);
            mayDeeds = world.colony.deeds;
        }
        return rows;
    }

    public int mayBe(int d) {
        return d >= 0 && d < mayDeeds ? mayRow[d] : NONE;
    }

    public int career(int m, int k) {
        if (!isMan(m) || k < 0 || k > CAREER_YEARS) {
            return NONE;
        }
        int weight = world.weightOf(m);
        int space = world.colony.room - weight;
        if (space < 0) {
            return NONE;
        }
        for (int d = 0; d < DEEDS; d++) {
            sums.most[d] = TIMES - world.life.did[m * DEEDS + d];
        }
        sums.findFewest(world.colony, space);
        int sum = sums.highestWithin(space, k);
        clearRow(careerRow);
        sums.addFirst(world.colony, sum, careerRow);
        careerDeeds = world.colony.deeds;
        return weight + sum;
    }

    public int careerOf(int d) {
        return d >= 0 && d < careerDeeds ? careerRow[d] : NONE;
    }

    public int hide(int m) {
        if (!isMan(m)) {
            return NONE;
        }
        int lacking = world.colony.room - world.whiteOf(m);
        if (lacking <= 0 || world.darkOf(m) == 0) {
            return 0;
        }
        return fewestGood(m, lacking);
    }

    public int heaviest() {
        int best = NONE;
        int most = NONE;
        for (int m = 0; m < world.colony.men; m++) {
            int weight = world.weightOf(m);
            if (weight > most) {
                most = weight;
                best = m;
            }
        }
        return best;
    }

    public int caption(int m) {
        if (!isMan(m)) {
            return NONE;
        }
        captionText.setLength(0);
        int how = world.howIs(m);
        if (how == IS_FULL) {
            captionText.append("no room");
            return captionText.length();
        }
        world.colony.writeName(m, captionText);
        if (how == IS_FAINT) {
            captionText.append(" is faint");
        } else {
            captionText.append(" white ");
            captionText.append(world.whiteOf(m));
            captionText.append(" dark ");
            captionText.append(world.darkOf(m));
        }
        return captionText.length();
    }

    public int byteAt(int i) {
        return i >= 0 && i < captionText.length() ? captionText.charAt(i) : NONE;
    }

    public int drawn(int n, int seed) {
        if (n < 1 || n > YEARS_AT_ONCE || world.colony.men == 0) {
            return NONE;
        }
        past.prepare(world.life);
        return undoableIfAny(world.drawYears(n, seed));
    }

    public int odds(int m, int n, int seed) {
        if (!isMan(m) || n < 1 || n > SEEDS_OF_ODDS) {
            return NONE;
        }
        draft.colony.copyFrom(world.colony);
        int seen = 0;
        for (int i = 0; i < n; i++) {
            draft.life.copyFrom(world.life);
            draft.drawYears(YEARS_OF_ODDS, seed + i);
            if (draft.howIs(m) == IS_SEEN) {
                seen++;
            }
        }
        return seen;
    }

    public int book(int lives) {
        if (lives != 0 && lives != 1) {
            return BOOK_NOT_READ;
        }
        boolean good = bookText.read(tape, world.colony);
        tape.length = 0;
        latestFault = tape.faultKind;
        if (!good) {
            return -2 - tape.faultPlace;
        }
        draft.colony.copyFrom(world.colony);
        draft.life.copyFrom(world.life);
        int wrong = bookText.liveIn(draft);
        if (lives == 1) {
            past.prepare(world.life);
            past.confirm();
            world.life.copyFrom(draft.life);
        }
        return wrong;
    }

    public int told(int what) {
        if (!bookText.judged) {
            return NONE;
        }
        switch (what) {
            case 0: return bookText.why;
            case 1: return bookText.lived;
            case 2: return bookText.yearThen;
            case 3: return bookText.seenThen;
            default: return NONE;
        }
    }

    public int sentence() {
        boolean good = draft.sentence.read(tape, world.colony);
        tape.length = 0;
        latestFault = tape.faultKind;
        if (!good) {
            return -1 - tape.faultPlace;
        }
        world.sentence.copyFrom(draft.sentence);
        return world.sentence.ones;
    }

    public int said(int k) {
        if (world.sentence.ones == 0 || k < NONE) {
            return NONE;
        }
        int bits = world.sentence.trueOf(world);
        if (k == NONE) {
            return Integer.bitCount(bits);
        }
        int before = 0;
        for (int m = 0; m < world.colony.men; m++) {
            if ((bits >> m & 1) != 0) {
                if (before == k) {
                    return m;
                }
                before++;
            }
        }
        return NONE;
    }

    public boolean image(int k) {
        if (k < 0 || k >= IMAGES) {
            return false;
        }
        images[k].copyFrom(world);
        imageKept[k] = true;
        return true;
    }

    public boolean restore(int k) {
        if (k < 0 || k >= IMAGES || !imageKept[k]) {
            return false;
        }
        world.copyFrom(images[k]);
        past.clear();
        return true;
    }

    public int count(int what) {
        switch (what) {
            case 0: return world.colony.men;
            case 1: return world.colony.deeds;
            case 2: return world.colony.room;
            case 3: return world.colony.faint;
            case 4: return tape.length;
            default: return NONE;
        }
    }

    private boolean isMan(int m) {
        return m >= 0 && m < world.colony.men;
    }

    private boolean isDeed(int d) {
        return d >= 0 && d < world.colony.deeds;
    }

    private static boolean isLoan(int n) {
        return n >= 1 && n <= MOST_LOAN;
    }

    private int undoableIfDone(int why) {
        if (why == 0) {
            past.confirm();
        }
        return why;
    }

    private int undoableIfAny(int gone) {
        if (gone > 0) {
            past.confirm();
        }
        return gone;
    }

    private static void clearRow(int[] row) {
        for (int d = 0; d < row.length; d++) {
            row[d] = 0;
        }
    }

    private void allowOnlySide(boolean crimes) {
        for (int d = 0; d < DEEDS; d++) {
            sums.most[d] = world.colony.crime[d] == crimes ? TIMES : 0;
        }
    }

    private long countSide(int sum, boolean crimes) {
        allowOnlySide(crimes);
        return sums.countWays(world.colony, sum);
    }

    private void pickSide(int sum, boolean crimes) {
        allowOnlySide(crimes);
        sums.findFewest(world.colony, sum);
        sums.addFirst(world.colony, sum, mayRow);
    }

    /** The heaviest first: as no sum may be missed by being too high, fewer can't do. */
    private int fewestGood(int m, int lacking) {
        int left = lacking;
        int deeds = 0;
        for (int weight = HEAVIEST_DEED; weight >= 1; weight--) {
            for (int d = 0; d < world.colony.deeds; d++) {
                if (world.colony.crime[d] || world.colony.weight[d] != weight) {
                    continue;
                }
                for (int n = world.life.did[m * DEEDS + d]; n < TIMES && left > 0; n++) {
                    left -= weight;
                    deeds++;
                }
            }
        }
        return left > 0 ? NONE : deeds;
    }

    /** The bytes that were fed, and the tokens along them. */
    private static final class Tape {
        static final int BAD = 0;
        static final int WORD = 1;
        static final int NUMBER = 2;
        static final int END = 3;
        private static final int LONGEST_WORD = 7;
        private static final int LONGEST_NUMBER = 3;

        final int[] bytes = new int[TAPE_BYTES];
        final long[] wordCodes = new long[WORD_COUNT];
        int length;
        int limit;
        int at;
        /** BAD, WORD, NUMBER, END, or a sign's own byte. */
        int kind;
        int start;
        int word;
        long code;
        int number;
        int faultKind;
        int faultPlace;

        Tape() {
            int w = 0;
            for (int i = 0; i < WORDS.length() && w < WORD_COUNT; i++) {
                char letter = WORDS.charAt(i);
                if (letter == ' ') {
                    w++;
                } else {
                    wordCodes[w] = wordCodes[w] * 32 + (letter - 'a' + 1);
                }
            }
        }

        void put(int number) {
            for (int shift = 24; shift >= 0 && length < TAPE_BYTES; shift -= 8) {
                bytes[length] = number >>> shift & 255;
                length++;
            }
        }

        void open(int mostBytes) {
            limit = mostBytes;
            at = 0;
            faultKind = 0;
            faultPlace = 0;
            advance();
        }

        void advance() {
            while (at < length && (bytes[at] == ' ' || bytes[at] == 10)) {
                at++;
            }
            start = at;
            word = NO_WORD;
            if (length > limit && at >= limit) {
                kind = BAD;
                start = limit;
            } else if (at >= length) {
                kind = END;
            } else if (isOfRun(bytes[at])) {
                readRun();
                word = kind == WORD ? findWord() : NO_WORD;
            } else {
                kind = isSign(bytes[at]) ? bytes[at] : BAD;
                at++;
            }
        }

        private void readRun() {
            int letters = 0;
            int digits = 0;
            code = 0;
            number = 0;
            for (; at < length; at++) {
                int b = bytes[at];
                if (b >= 'a' && b <= 'z') {
                    code = code * 32 + (b - 'a' + 1);
                    letters++;
                } else if (b >= '0' && b <= '9') {
                    number = number * 10 + (b - '0');
                    digits++;
                } else {
                    break;
                }
            }
            kind = BAD;
            if (digits == 0 && letters <= LONGEST_WORD) {
                kind = WORD;
            } else if (letters == 0 && digits <= LONGEST_NUMBER) {
                kind = NUMBER;
            }
        }

        private int findWord() {
            for (int w = 0; w < WORD_COUNT; w++) {
                if (wordCodes[w] == code) {
                    return w;
                }
            }
            return NO_WORD;
        }

        private static boolean isOfRun(int b) {
            return b >= 'a' && b <= 'z' || b >= '0' && b <= '9';
        }

        private static boolean isSign(int b) {
            return b == ';' || b == '<' || b == '=' || b == '>' || b == '(' || b == ')';
        }

        boolean isName() {
            return kind == WORD && word == NO_WORD;
        }

        /** Always false, so that a reader can answer with it. */
        boolean refuse(int faultOfToken) {
            faultKind = faultOfToken;
            faultPlace = start;
            return false;
        }

        boolean takeSign(int sign) {
            if (kind != sign) {
                return refuse(CANNOT_COME);
            }
            advance();
            return true;
        }

        /** The number, then one token on; NONE with a fault. */
        int takeNumber(int least, int most) {
            if (kind != NUMBER) {
                refuse(CANNOT_COME);
                return NONE;
            }
            if (number < least || number > most) {
                refuse(WRONG_NUMBER);
                return NONE;
            }
            int taken = number;
            advance();
            return taken;
        }
    }

    /** What a colony's text tells once for all. */
    private static final class Colony {
        static final int ROOM_UNTOLD = 60;
        static final int FAINT_UNTOLD = 10;

        final long[] manCode = new long[MEN];
        final long[] deedCode = new long[DEEDS];
        final int[] weight = new int[DEEDS];
        final boolean[] crime = new boolean[DEEDS];
        final int[] kin = new int[MEN];
        int men;
        int deeds;
        int room = ROOM_UNTOLD;
        int faint = FAINT_UNTOLD;

        void clear() {
            men = 0;
            deeds = 0;
            room = ROOM_UNTOLD;
            faint = FAINT_UNTOLD;
            for (int m = 0; m < MEN; m++) {
                kin[m] = 0;
            }
        }

        void copyFrom(Colony other) {
            men = other.men;
            deeds = other.deeds;
            room = other.room;
            faint = other.faint;
            for (int m = 0; m < MEN; m++) {
                manCode[m] = other.manCode[m];
                kin[m] = other.kin[m];
            }
            for (int d = 0; d < DEEDS; d++) {
                deedCode[d] = other.deedCode[d];
                weight[d] = other.weight[d];
                crime[d] = other.crime[d];
            }
        }

        int allMen() {
            return (1 << men) - 1;
        }

        boolean areKin(int m, int k) {
            return (kin[m] >> k & 1) != 0;
        }

        int familyOf(int m) {
            int bits = 1 << m;
            for (int round = 0; round < men; round++) {
                for (int k = 0; k < men; k++) {
                    if ((bits >> k & 1) != 0) {
                        bits |= kin[k];
                    }
                }
            }
            return bits;
        }

        void writeName(int m, StringBuilder text) {
            for (int shift = 30; shift >= 0; shift -= 5) {
                int letter = (int) (manCode[m] >> shift & 31);
                if (letter != 0) {
                    text.append((char) ('a' + letter - 1));
                }
            }
        }

        int findMan(long code) {
            for (int m = 0; m < men; m++) {
                if (manCode[m] == code) {
                    return m;
                }
            }
            return NONE;
        }

        int findDeed(long code) {
            for (int d = 0; d < deeds; d++) {
                if (deedCode[d] == code) {
                    return d;
                }
            }
            return NONE;
        }

        /** The man whom the tape's token names, which stays; NONE with a fault. */
        int manAt(Tape tape) {
            return namedAt(tape, findMan(tape.code));
        }

        int deedAt(Tape tape) {
            return namedAt(tape, findDeed(tape.code));
        }

        private static int namedAt(Tape tape, int found) {
            if (!tape.isName()) {
                tape.refuse(CANNOT_COME);
                return NONE;
            }
            if (found == NONE) {
                tape.refuse(WRONG_NAME);
            }
            return found;
        }
    }

    /** All that years and acts change. */
    private static final class Life {
        final int[] age = new int[MEN];
        final int[] did = new int[MEN * DEEDS];
        final int[] owed = new int[MEN * MEN];
        final int[] lentTo = new int[MEN];
        final int[] lentDeed = new int[MEN];
        final int[] sat = new int[MEN];
        final int[] keptWhite = new int[MEN];
        final int[] keptDark = new int[MEN];
        final int[] keptYear = new int[MEN];
        final int[] keptAge = new int[MEN];
        int year;

        Life() {
            clear();
        }

        void clear() {
            year = 0;
            for (int m = 0; m < MEN; m++) {
                age[m] = 0;
                lentTo[m] = NONE;
                lentDeed[m] = NONE;
                sat[m] = 0;
            }
            for (int i = 0; i < MEN * DEEDS; i++) {
                did[i] = 0;
            }
            for (int i = 0; i < MEN * MEN; i++) {
                owed[i] = 0;
            }
        }

        void copyFrom(Life other) {
            year = other.year;
            System.arraycopy(other.age, 0, age, 0, MEN);
            System.arraycopy(other.did, 0, did, 0, MEN * DEEDS);
            System.arraycopy(other.owed, 0, owed, 0, MEN * MEN);
            System.arraycopy(other.lentTo, 0, lentTo, 0, MEN);
            System.arraycopy(other.lentDeed, 0, lentDeed, 0, MEN);
            System.arraycopy(other.sat, 0, sat, 0, MEN);
            System.arraycopy(other.keptWhite, 0, keptWhite, 0, MEN);
            System.arraycopy(other.keptDark, 0, keptDark, 0, MEN);
            System.arraycopy(other.keptYear, 0, keptYear, 0, MEN);
            System.arraycopy(other.keptAge, 0, keptAge, 0, MEN);
        }

        int owedBy(int m) {
            int sum = 0;
            for (int k = 0; k < MEN; k++) {
                sum += owed[m * MEN + k];
            }
            return sum;
        }

        int didByAll(int d) {
            int sum = 0;
            for (int m = 0; m < MEN; m++) {
                sum += did[m * DEEDS + d];
            }
            return sum;
        }

        int sittings() {
            int sum = 0;
            for (int m = 0; m < MEN; m++) {
                sum += sat[m];
            }
            return sum;
        }

        int doDeed(int m, int d) {
            if (did[m * DEEDS + d] >= TIMES) {
                return 1;
            }
            did[m * DEEDS + d]++;
            return 0;
        }

        int takeBack(int m) {
            if (lentTo[m] == NONE) {
                return 1;
            }
            lentTo[m] = NONE;
            lentDeed[m] = NONE;
            return 0;
        }

        int borrowOf(int m, int k, int n) {
            if (m == k) {
                return 1;
            }
            if (owed[m * MEN + k] + n > MOST_OWED) {
                return 2;
            }
            owed[m * MEN + k] += n;
            return 0;
        }

        int payTo(int m, int k, int n) {
            if (owed[m * MEN + k] < n) {
                return 1;
            }
            owed[m * MEN + k] -= n;
            return 0;
        }
    }

    /** A colony, its life and the sentence that is said of its men. */
    private static final class World {
        final Colony colony = new Colony();
        final Life life = new Life();
        final Sentence sentence = new Sentence();

        void copyFrom(World other) {
            colony.copyFrom(other.colony);
            life.copyFrom(other.life);
            sentence.copyFrom(other.sentence);
        }

        int whiteOf(int m) {
            return sideOf(m, false);
        }

        int darkOf(int m) {
            return sideOf(m, true) + life.owedBy(m);
        }

        int weightOf(int m) {
            return sideOf(m, false) + sideOf(m, true) + life.owedBy(m);
        }

        private int sideOf(int m, boolean crimes) {
            int sum = 0;
            for (int d = 0; d < colony.deeds; d++) {
                if (colony.crime[d] == crimes) {
                    sum += life.did[m * DEEDS + d] * colony.weight[d];
                }
            }
            for (int k = 0; k < colony.men; k++) {
                int d = life.lentDeed[k];
                if (d == NONE || colony.crime[d] != crimes) {
                    continue;
                }
                if (k == m) {
                    sum -= colony.weight[d];
                } else if (life.lentTo[k] == m) {
                    sum += colony.weight[d];
                }
            }
            return sum;
        }

        int howIs(int m) {
            int weight = weightOf(m);
            if (weight < colony.faint) {
                return IS_FAINT;
            }
            return weight > colony.room ? IS_FULL : IS_SEEN;
        }

        int whoIs(int how) {
            int bits = 0;
            for (int m = 0; m < colony.men; m++) {
                if (howIs(m) == how) {
                    bits |= 1 << m;
                }
            }
            return bits;
        }

        int whoLends() {
            int bits = 0;
            for (int m = 0; m < colony.men; m++) {
                if (life.lentTo[m] != NONE) {
                    bits |= 1 << m;
                }
            }
            return bits;
        }

        int allWhite() {
            int sum = 0;
            for (int m = 0; m < colony.men; m++) {
                sum += whiteOf(m);
            }
            return sum;
        }

        int allDark() {
            int sum = 0;
            for (int m = 0; m < colony.men; m++) {
                sum += darkOf(m);
            }
            return sum;
        }

        int weightOfAll(int bits) {
            int sum = 0;
            for (int m = 0; m < colony.men; m++) {
                if ((bits >> m & 1) != 0) {
                    sum += weightOf(m);
                }
            }
            return sum;
        }

        int lendDeed(int m, int k, int d) {
            if (!colony.areKin(m, k)) {
                return 1;
            }
            if (life.lentTo[m] != NONE) {
                return 2;
            }
            if (life.did[m * DEEDS + d] == 0) {
                return 3;
            }
            life.lentTo[m] = k;
            life.lentDeed[m] = d;
            return 0;
        }

        int sitDown(int m) {
            boolean again = life.age[m] >= SITS_AGAIN_AT && life.keptAge[m] < SITS_AGAIN_AT;
            if (life.sat[m] > 0 && !again) {
                return 1;
            }
            life.sat[m]++;
            life.keptWhite[m] = whiteOf(m);
            life.keptDark[m] = darkOf(m);
            life.keptYear[m] = life.year;
            life.keptAge[m] = life.age[m];
            return 0;
        }

        /** Whether there was one more year. */
        boolean passYear() {
            if (life.year >= LAST_YEAR) {
                return false;
            }
            life.year++;
            for (int m = 0; m < colony.men; m++) {
                life.age[m]++;
                life.takeBack(m);
            }
            return true;
        }

        int drawYears(int n, int seed) {
            int x = seed;
            int gone = 0;
            while (gone < n && life.year < LAST_YEAR) {
                for (int m = 0; m < colony.men; m++) {
                    x = drawAct(m, x);
                }
                passYear();
                gone++;
            }
            return gone;
        }

        /** What a man does by the draws behind x; the x of the last of them. */
        private int drawAct(int m, int x) {
            int last = nextDraw(x);
            int kind = drawOf(6, last);
            if (kind == 3) {
                sitDown(m);
            }
            if (kind > 2) {
                return last;
            }
            int whom = NONE;
            if (kind == 2) {
                last = nextDraw(last);
                whom = drawOf(colony.men, last);
            }
            if (colony.deeds == 0) {
                return last;
            }
            last = nextDraw(last);
            int d = drawOf(colony.deeds, last);
            if (kind == 2) {
                lendDeed(m, whom, d);
            } else {
                life.doDeed(m, d);
            }
            return last;
        }

        private static int nextDraw(int x) {
            return x * 1103515245 + 12345;
        }

        private static int drawOf(int n, int x) {
            return n > 0 ? (x >>> 8) % n : 0;
        }
    }

    /** The lives ahead of the latest acts; one place more than are kept, for an act that is not sure yet. */
    private static final class Past {
        private static final int PLACES = ACTS_KEPT + 1;
        private final Life[] lives = new Life[PLACES];
        private int size;
        private int next;

        Past() {
            for (int i = 0; i < PLACES; i++) {
                lives[i] = new Life();
            }
        }

        void clear() {
            size = 0;
        }

        void prepare(Life life) {
            lives[next].copyFrom(life);
        }

        void confirm() {
            next = next + 1 < PLACES ? next + 1 : 0;
            size = Math.min(size + 1, ACTS_KEPT);
        }

        /** How many are left; NONE if there was none. */
        int takeLatest(Life life) {
            if (size == 0) {
                return NONE;
            }
            next = next > 0 ? next - 1 : PLACES - 1;
            life.copyFrom(lives[next]);
            size--;
            return size;
        }
    }

    /** The text of a colony. */
    private static final class ColonyText {
        private static final int OLDEST = 90;
        private static final int MOST_ROOM = 200;
        private static final int MOST_FAINT = 60;

        int lines;
        private int first;
        private int second;
        private boolean roomTold;
        private boolean faintTold;

        boolean read(Tape tape, Colony colony, Life life) {
            colony.clear();
            life.clear();
            roomTold = false;
            faintTold = false;
            lines = 0;
            tape.open(COLONY_BYTES);
            while (lines < TAPE_BYTES && tape.kind != Tape.END) {
                if (!readLine(tape, colony, life) || !tape.takeSign(';')) {
                    return false;
                }
                lines++;
            }
            return true;
        }

        private boolean readLine(Tape tape, Colony colony, Life life) {
            switch (tape.word) {
                case W_MAN: return readMan(tape, colony, life);
                case W_DEED: return readDeed(tape, colony);
                case W_DID: return readDid(tape, colony, life);
                case W_KIN: return readKin(tape, colony);
                case W_OWES: return readOwes(tape, colony, life);
                case W_PLATE: return readRoom(tape, colony);
                case W_FAINT: return readFaint(tape, colony);
                default: return tape.refuse(CANNOT_COME);
            }
        }

        private static boolean readMan(Tape tape, Colony colony, Life life) {
            int m = colony.men;
            if (m >= MEN) {
                return tape.refuse(TOO_MANY);
            }
            tape.advance();
            if (!isNewName(tape, colony)) {
                return false;
            }
            colony.manCode[m] = tape.code;
            tape.advance();
            int age = tape.takeNumber(0, OLDEST);
            if (age == NONE) {
                return false;
            }
            life.age[m] = age;
            colony.men++;
            return true;
        }

        private static boolean readDeed(Tape tape, Colony colony) {
            int d = colony.deeds;
            if (d >= DEEDS) {
                return tape.refuse(TOO_MANY);
            }
            tape.advance();
            if (!isNewName(tape, colony)) {
                return false;
            }
            colony.deedCode[d] = tape.code;
            tape.advance();
            if (tape.word != W_GOOD && tape.word != W_CRIME) {
                return tape.refuse(CANNOT_COME);
            }
            colony.crime[d] = tape.word == W_CRIME;
            tape.advance();
            int weight = tape.takeNumber(1, HEAVIEST_DEED);
            if (weight == NONE) {
                return false;
            }
            colony.weight[d] = weight;
            colony.deeds++;
            return true;
        }

        private static boolean isNewName(Tape tape, Colony colony) {
            if (!tape.isName()) {
                return tape.refuse(CANNOT_COME);
            }
            if (colony.findMan(tape.code) != NONE || colony.findDeed(tape.code) != NONE) {
                return tape.refuse(WRONG_NAME);
            }
            return true;
        }

        private static boolean readDid(Tape tape, Colony colony, Life life) {
            tape.advance();
            int m = colony.manAt(tape);
            if (m == NONE) {
                return false;
            }
            tape.advance();
            int d = colony.deedAt(tape);
            if (d == NONE) {
                return false;
            }
            if (life.did[m * DEEDS + d] != 0) {
                return tape.refuse(WRONG_NAME);
            }
            tape.advance();
            int times = tape.takeNumber(1, TIMES);
            if (times == NONE) {
                return false;
            }
            life.did[m * DEEDS + d] = times;
            return true;
        }

        private boolean readKin(Tape tape, Colony colony) {
            if (!readUnlikeMen(tape, colony)) {
                return false;
            }
            if (colony.areKin(first, second)) {
                return tape.refuse(WRONG_NAME);
            }
            tape.advance();
            colony.kin[first] |= 1 << second;
            colony.kin[second] |= 1 << first;
            return true;
        }

        private boolean readOwes(Tape tape, Colony colony, Life life) {
            if (!readUnlikeMen(tape, colony)) {
                return false;
            }
            if (life.owed[first * MEN + second] != 0) {
                return tape.refuse(WRONG_NAME);
            }
            tape.advance();
            int owed = tape.takeNumber(1, MOST_LOAN);
            if (owed == NONE) {
                return false;
            }
            life.owed[first * MEN + second] = owed;
            return true;
        }

        /** The second one's token stays, as they may have been told together: that fault is at it. */
        private boolean readUnlikeMen(Tape tape, Colony colony) {
            tape.advance();
            first = colony.manAt(tape);
            if (first == NONE) {
                return false;
            }
            tape.advance();
            second = colony.manAt(tape);
            if (second == NONE) {
                return false;
            }
            return first != second || tape.refuse(WRONG_NAME);
        }

        private boolean readRoom(Tape tape, Colony colony) {
            if (roomTold) {
                return tape.refuse(WRONG_NAME);
            }
            roomTold = true;
            tape.advance();
            colony.room = tape.takeNumber(1, MOST_ROOM);
            return colony.room != NONE;
        }

        private boolean readFaint(Tape tape, Colony colony) {
            if (faintTold) {
                return tape.refuse(WRONG_NAME);
            }
            faintTold = true;
            tape.advance();
            colony.faint = tape.takeNumber(0, MOST_FAINT);
            return colony.faint != NONE;
        }
    }

    /** The text of a book, and what came of it when it was judged last. */
    private static final class BookText {
        private final int[] who = new int[BOOK_LINES];
        private final int[] verb = new int[BOOK_LINES];
        private final int[] whom = new int[BOOK_LINES];
        private final int[] what = new int[BOOK_LINES];
        private int lines;
        boolean judged;
        int why;
        int lived;
        int yearThen;
        int seenThen;

        boolean read(Tape tape, Colony colony) {
            lines = 0;
            tape.open(BOOK_BYTES);
            for (int n = 0; n <= BOOK_LINES && tape.kind != Tape.END; n++) {
                if (!readLine(tape, colony) || !tape.takeSign(';')) {
                    return false;
                }
                lines++;
            }
            return true;
        }

        private boolean readLine(Tape tape, Colony colony) {
            boolean isYear = tape.word == W_YEAR;
            int m = isYear ? 0 : colony.manAt(tape);
            if (m == NONE) {
                return false;
            }
            if (lines >= BOOK_LINES) {
                return tape.refuse(TOO_MANY);
            }
            tape.advance();
            who[lines] = m;
            if (isYear) {
                verb[lines] = W_YEAR;
                what[lines] = tape.takeNumber(1, YEARS_AT_ONCE);
                return what[lines] != NONE;
            }
            verb[lines] = tape.word;
            return readVerb(tape, colony);
        }

        private boolean readVerb(Tape tape, Colony colony) {
            switch (tape.word) {
                case W_DOES:
                    tape.advance();
                    return readDone(tape, colony);
                case W_LENDS:
                    tape.advance();
                    return readWhom(tape, colony) && readDone(tape, colony);
                case W_BORROWS:
                case W_PAYS:
                    tape.advance();
                    return readWhom(tape, colony) && readLoan(tape);
                case W_RETURNS:
                case W_SITS:
                    tape.advance();
                    return true;
                default:
                    return tape.refuse(CANNOT_COME);
            }
        }

        private boolean readWhom(Tape tape, Colony colony) {
            whom[lines] = colony.manAt(tape);
            if (whom[lines] == NONE) {
                return false;
            }
            tape.advance();
            return true;
        }

        private boolean readDone(Tape tape, Colony colony) {
            what[lines] = colony.deedAt(tape);
            if (what[lines] == NONE) {
                return false;
            }
            tape.advance();
            return true;
        }

        private boolean readLoan(Tape tape) {
            what[lines] = tape.takeNumber(1, MOST_LOAN);
            return what[lines] != NONE;
        }

        /** The line that is wrong, behind which nothing is lived; NONE. */
        int liveIn(World world) {
            why = 0;
            lived = 0;
            while (lived < lines && why == 0) {
                why = liveLine(lived, world);
                if (why == 0) {
                    lived++;
                }
            }
            judged = true;
            yearThen = world.life.year;
            seenThen = world.whoIs(IS_SEEN);
            return why == 0 ? NONE : lived;
        }

        private int liveLine(int line, World world) {
            int m = who[line];
            Life life = world.life;
            switch (verb[line]) {
                case W_DOES: return whyOf(0, life.doDeed(m, what[line]));
                case W_LENDS: return whyOf(10, world.lendDeed(m, whom[line], what[line]));
                case W_RETURNS: return whyOf(20, life.takeBack(m));
                case W_BORROWS: return whyOf(30, life.borrowOf(m, whom[line], what[line]));
                case W_PAYS: return whyOf(40, life.payTo(m, whom[line], what[line]));
                case W_SITS: return whyOf(50, world.sitDown(m));
                default: return liveYears(what[line], world);
            }
        }

        private static int whyOf(int sort, int why) {
            return why == 0 ? 0 : sort + why;
        }

        private static int liveYears(int n, World world) {
            if (LAST_YEAR - world.life.year < n) {
                return FEWER_YEARS_LEFT;
            }
            for (int i = 0; i < n; i++) {
                world.passYear();
            }
            return 0;
        }
    }

    /** A sentence, held so that what is joined stands ahead of what joins it. */
    private static final class Sentence {
        private static final int STEPS = 2 * SENTENCE_ONES;
        private final int[] step = new int[STEPS];
        private final int[] sign = new int[STEPS];
        private final int[] number = new int[STEPS];
        private final int[] waiting = new int[SENTENCE_ONES];
        private int steps;
        int ones;

        void clear() {
            steps = 0;
            ones = 0;
        }

        void copyFrom(Sentence other) {
            steps = other.steps;
            ones = other.ones;
            System.arraycopy(other.step, 0, step, 0, STEPS);
            System.arraycopy(other.sign, 0, sign, 0, STEPS);
            System.arraycopy(other.number, 0, number, 0, STEPS);
        }

        boolean read(Tape tape, Colony colony) {
            clear();
            tape.open(SENTENCE_BYTES);
            return readAny(tape, colony, 1) && (tape.kind == Tape.END || tape.refuse(CANNOT_COME));
        }

        private boolean readAny(Tape tape, Colony colony, int depth) {
            boolean good = readAll(tape, colony, depth);
            for (int n = 0; n < SENTENCE_ONES && good && tape.word == W_OR; n++) {
                tape.advance();
                good = readAll(tape, colony, depth) && put(W_OR, 0, 0);
            }
            return good;
        }

        private boolean readAll(Tape tape, Colony colony, int depth) {
            boolean good = readOne(tape, colony, depth);
            for (int n = 0; n < SENTENCE_ONES && good && tape.word == W_AND; n++) {
                tape.advance();
                good = readOne(tape, colony, depth) && put(W_AND, 0, 0);
            }
            return good;
        }

        private boolean readOne(Tape tape, Colony colony, int depth) {
            int word = tape.word;
            boolean bracket = tape.kind == '(';
            if (!bracket && !beginsOne(word)) {
                return tape.refuse(CANNOT_COME);
            }
            if (ones >= SENTENCE_ONES || depth > ONES_WITHIN) {
                return tape.refuse(TOO_MANY);
            }
            ones++;
            tape.advance();
            if (bracket) {
                return readAny(tape, colony, depth + 1) && tape.takeSign(')');
            }
            if (word == W_NOT) {
                return readOne(tape, colony, depth + 1) && put(W_NOT, 0, 0);
            }
            if (word == W_HAS) {
                return readNamed(word, colony.deedAt(tape), tape);
            }
            if (word == W_AKIN) {
                return readNamed(word, colony.manAt(tape), tape);
            }
            return isCompared(word) ? readCompared(word, tape) : put(word, 0, 0);
        }

        /** Most words of a sentence stand last among the words, behind those that join. */
        private static boolean beginsOne(int word) {
            return word == W_FAINT || word >= W_NOT;
        }

        private static boolean isCompared(int word) {
            return word == W_WHITE || word == W_DARK || word == W_AGE || word == W_NUMBER;
        }

        private boolean readNamed(int word, int found, Tape tape) {
            if (found == NONE) {
                return false;
            }
            tape.advance();
            return put(word, 0, found);
        }

        private boolean readCompared(int word, Tape tape) {
            int compared = tape.kind;
            if (compared != '<' && compared != '=' && compared != '>') {
                return tape.refuse(CANNOT_COME);
            }
            tape.advance();
            if (tape.kind != Tape.NUMBER) {
                return tape.refuse(CANNOT_COME);
            }
            put(word, compared, tape.number);
            tape.advance();
            return true;
        }

        /** Always true, so that a reader can answer with it: there is a step for each one and each joining. */
        private boolean put(int word, int compared, int value) {
            if (steps < STEPS) {
                step[steps] = word;
                sign[steps] = compared;
                number[steps] = value;
                steps++;
            }
            return true;
        }

        /** The men of whom it is true, as bits. */
        int trueOf(World world) {
            int top = NONE;
            for (int i = 0; i < steps; i++) {
                if (step[i] == W_NOT && top >= 0) {
                    waiting[top] = world.colony.allMen() & ~waiting[top];
                } else if (step[i] == W_AND && top >= 1) {
                    waiting[top - 1] &= waiting[top];
                    top--;
                } else if (step[i] == W_OR && top >= 1) {
                    waiting[top - 1] |= waiting[top];
                    top--;
                } else if (top + 1 < SENTENCE_ONES) {
                    top++;
                    waiting[top] = plainTrueOf(i, world);
                }
            }
            return top >= 0 ? waiting[top] : 0;
        }

        private int plainTrueOf(int i, World world) {
            int bits = 0;
            for (int m = 0; m < world.colony.men; m++) {
                if (isTrue(i, m, world)) {
                    bits |= 1 << m;
                }
            }
            return bits;
        }

        private boolean isTrue(int i, int m, World world) {
            switch (step[i]) {
                case W_SEEN: return world.howIs(m) == IS_SEEN;
                case W_FAINT: return world.howIs(m) == IS_FAINT;
                case W_FULL: return world.howIs(m) == IS_FULL;
                case W_TAKEN: return world.life.sat[m] > 0;
                case W_LENDING: return world.life.lentTo[m] != NONE;
                case W_HAS: return world.life.did[m * DEEDS + number[i]] > 0;
                case W_AKIN: return (world.colony.familyOf(m) >> number[i] & 1) != 0;
                case W_WHITE: return holds(world.whiteOf(m), i);
                case W_DARK: return holds(world.darkOf(m), i);
                case W_AGE: return holds(world.life.age[m], i);
                default: return holds(m, i);
            }
        }

        private boolean holds(int value, int i) {
            switch (sign[i]) {
                case '<': return value < number[i];
                case '>': return value > number[i];
                default: return value == number[i];
            }
        }
    }

    /** Which sums of weights deeds can make, each done so many times at most. */
    private static final class Sums {
        private static final int SIZE = 256;
        private static final int NEVER = 1000;
        final int[] most = new int[DEEDS];
        /** For each deed and sum: by how few times of this and the later deeds it is made. */
        private final int[] fewest = new int[(DEEDS + 1) * SIZE];
        private final long[] ways = new long[SIZE];

        long countWays(Colony colony, int sum) {
            for (int s = 0; s <= sum && s < SIZE; s++) {
                ways[s] = s == 0 ? 1 : 0;
            }
            for (int d = 0; d < colony.deeds; d++) {
                addWays(most[d], colony.weight[d], sum);
            }
            return sum >= 0 && sum < SIZE ? ways[sum] : 0;
        }

        /** From the highest sum down, so that what a sum takes is as it was without the deed. */
        private void addWays(int times, int weight, int sum) {
            for (int s = Math.min(sum, SIZE - 1); s >= weight; s--) {
                for (int n = 1; n <= times && n * weight <= s; n++) {
                    ways[s] += ways[s - n * weight];
                }
            }
        }

        void findFewest(Colony colony, int sum) {
            int top = Math.min(sum, SIZE - 1);
            for (int s = 0; s <= top; s++) {
                fewest[colony.deeds * SIZE + s] = s == 0 ? 0 : NEVER;
            }
            for (int d = colony.deeds - 1; d >= 0; d--) {
                for (int s = 0; s <= top; s++) {
                    fewest[d * SIZE + s] = fewestFrom(d, s, colony.weight[d]);
                }
            }
        }

        private int fewestFrom(int d, int s, int weight) {
            int best = NEVER;
            for (int n = 0; n <= most[d] && n * weight <= s; n++) {
                best = Math.min(best, fewest[(d + 1) * SIZE + s - n * weight] + n);
            }
            return best;
        }

        /** The highest sum by so many times at most; there is always 0. */
        int highestWithin(int sum, int times) {
            for (int s = Math.min(sum, SIZE - 1); s > 0; s--) {
                if (fewest[s] <= times) {
                    return s;
                }
            }
            return 0;
        }

        /** Adds the first of the shortest rows that make a sum. */
        void addFirst(Colony colony, int sum, int[] row) {
            int left = sum;
            for (int d = 0; d < colony.deeds; d++) {
                int times = firstTimes(d, left, colony.weight[d]);
                row[d] += times;
                left -= times * colony.weight[d];
            }
        }

        private int firstTimes(int d, int left, int weight) {
            for (int n = 0; n <= most[d] && n * weight <= left; n++) {
                if (fewest[(d + 1) * SIZE + left - n * weight] + n == fewest[d * SIZE + left]) {
                    return n;
                }
            }
            return 0;
        }
    }

    /** The search for the fewest who lend. */
    private static final class Lenders {
        /** What each would lend weighs; 0: he can't, and so he is never among the fewest. */
        private final int[] loan = new int[MEN];

        /** As bits; NONE: not by all. */
        int fewestFor(World world, int m) {
            int lacking = world.colony.faint - world.weightOf(m);
            if (lacking <= 0) {
                return 0;
            }
            for (int k = 0; k < world.colony.men; k++) {
                boolean free = world.colony.areKin(m, k) && world.life.lentTo[k] == NONE;
                loan[k] = free ? heaviestLoan(world, k) : 0;
            }
            int best = NONE;
            int fewest = MEN + 1;
            for (int bits = 1; bits <= world.colony.allMen(); bits++) {
                int lenders = Integer.bitCount(bits);
                if (lenders < fewest && loanOf(bits) >= lacking) {
                    best = bits;
                    fewest = lenders;
                }
            }
            return best;
        }

        private static int heaviestLoan(World world, int k) {
            int weight = world.weightOf(k);
            int faint = world.colony.faint;
            int heaviest = 0;
            for (int d = 0; d < world.colony.deeds; d++) {
                int loan = world.colony.weight[d];
                boolean can = weight < faint || weight - loan >= faint;
                if (can && world.life.did[k * DEEDS + d] > 0 && loan > heaviest) {
                    heaviest = loan;
                }
            }
            return heaviest;
        }

        private int loanOf(int bits) {
            int sum = 0;
            for (int k = 0; k < MEN; k++) {
                if ((bits >> k & 1) != 0) {
                    sum += loan[k];
                }
            }
            return sum;
        }
    }
}
