import java.util.Arrays;
import java.util.NoSuchElementException;

/** A college whose fellows are parted by glasses on a wall. */
public final class PartedFellows {
    public static final int NONE = -1;

    private static final int PARTS = 7;
    private static final int MOST_FELLOWS = 6;
    private static final int MOST_GLASSES = 8;
    private static final int CELLS = MOST_FELLOWS * PARTS;
    private static final int MOST_PLACES = 99;
    private static final int PLACES_WITHOUT_WALL = 60;
    private static final int MOST_OF_A_PART = 40;
    private static final int MOST_IN_ALL = CELLS * MOST_OF_A_PART;

    private static final int TAPE_BYTES = 600;
    private static final int LAW_BYTES = 150;
    private static final int WORK_BYTES = 150;
    private static final int BOOK_BYTES = 60;
    private static final int MOST_CLAUSES = 60;
    private static final int MOST_LINES = 8;
    private static final int DEEPEST = 6;

    private static final int MISPLACED = 1;
    private static final int NO_SUCH_NUMBER = 2;
    private static final int TOO_MANY = 3;

    private static final int MOST_WORKS = 16;
    private static final int MOST_IMAGES = 3;
    private static final int MOST_BEGUN = 200;
    private static final int LAST_DAY = 400;
    private static final int WORKS_FULL = -20;

    private static final int MOST_TOLD = 400;
    private static final int MOST_TOLD_IN_ALL = 2800;
    private static final int ORDERS = 5040;
    private static final int[] FACTORIALS = {1, 1, 2, 6, 24, 120, 720};

    private final Tape tape;
    private final College college;
    private final College spareCollege;
    private final Law law;
    private final Law spareLaw;
    private final Book book;
    private final Book spareBook;
    private final Optics optics;
    private final Work work;
    private final Hall now;
    private final Past past;
    private final Image[] images;
    private int imageCount;
    private int refusedSteps;
    private final Pairs pairs;
    private final Term term;
    private int noSuchCalls;
    private int illegalCalls;

    public PartedFellows() {
        tape = new Tape();
        college = new College();
        spareCollege = new College();
        law = new Law();
        spareLaw = new Law();
        book = new Book();
        spareBook = new Book();
        optics = new Optics(college, law);
        work = new Work(tape, college, optics);
        now = new Hall();
        past = new Past();
        images = new Image[MOST_IMAGES];
        for (int i = 0; i < MOST_IMAGES; i++) {
            images[i] = new Image();
        }
        pairs = new Pairs(college, book, optics);
        term = new Term(college, optics);
    }

    // ---- texts ----

    public int feed(int a, int b, int c, int d, int e) {
        if (tape.filled + 20 > TAPE_BYTES) {
            return NONE;
        }
        tape.put(a);
        tape.put(b);
        tape.put(c);
        tape.put(d);
        tape.put(e);
        return tape.filled;
    }

    public int college(int n) throws IllegalArgumentException {
        startText(n, TAPE_BYTES);
        if (!spareCollege.read(tape)) {
            return tape.faultKind - 10;
        }
        college.copyFrom(spareCollege);
        law.becomePlain();
        book.lines = 0;
        now.open(college);
        past.works = 0;
        imageCount = 0;
        refusedSteps = 0;
        return college.fellows;
    }

    public int law(int n) throws IllegalArgumentException {
        startText(n, LAW_BYTES);
        if (!spareLaw.read(tape)) {
            return tape.faultKind - 10;
        }
        law.copyFrom(spareLaw);
        return 1;
    }

    public int work(int n) throws IllegalArgumentException {
        startText(n, WORK_BYTES);
        if (past.works >= MOST_WORKS) {
            return WORKS_FULL;
        }
        if (!work.read()) {
            return tape.faultKind - 10;
        }
        past.push(now);
        work.perform(now, 0, work.written, 0);
        refusedSteps = work.refused;
        return work.done;
    }

    public int book(int n) throws IllegalArgumentException {
        startText(n, BOOK_BYTES);
        if (!spareBook.read(tape, college.places)) {
            return tape.faultKind - 10;
        }
        book.copyFrom(spareBook);
        return book.lines;
    }

    public int fault() {
        return tape.faultPlace;
    }

    public int undo() {
        if (past.works == 0) {
            return -1;
        }
        past.popInto(now);
        refusedSteps = 0;
        return past.works;
    }

    // ---- what there is now ----

    public int told(int what) throws IllegalArgumentException {
        need(what >= 0 && what <= 11);
        switch (what) {
            case 0: return college.fellows;
            case 1: return college.glasses;
            case 2: return college.places;
            case 3: return now.day;
            case 4: return now.whiteBits();
            case 5: return now.litBits(0);
            case 6: return sum(now.within, 0, CELLS);
            case 7: return sum(now.wall, 0, CELLS);
            case 8: return sum(now.taken, 0, CELLS);
            case 9: return book.lines;
            case 10: return refusedSteps;
            default: return sum(now.turns, 0, MOST_FELLOWS);
        }
    }

    public int fellow(int fellow, int what) throws NoSuchElementException, IllegalArgumentException {
        needFellow(fellow);
        need(what >= 0 && what <= 7);
        int from = fellow * PARTS;
        switch (what) {
            case 0: return now.allWithin(fellow);
            case 1: return sum(now.wall, from, from + PARTS);
            case 2: return sum(now.taken, from, from + PARTS);
            case 3: return now.darkBits(fellow);
            case 4: return now.isWhite(1 << fellow) ? 1 : 0;
            case 5: return now.turns[fellow];
            case 6: return now.leastPlace(fellow);
            default: return now.greatestPlace(fellow);
        }
    }

    public int part(int fellow, int part, int what) throws NoSuchElementException, IllegalArgumentException {
        needFellow(fellow);
        need(isPart(part) && what >= 0 && what <= 3);
        int cell = fellow * PARTS + part;
        switch (what) {
            case 0: return now.within[cell];
            case 1: return now.wall[cell];
            case 2: return now.wall[cell] > 0 ? now.at[cell] : NONE;
            default: return now.taken[cell];
        }
    }

    public int glass(int glass, int what) throws NoSuchElementException, IllegalArgumentException {
        needGlass(glass);
        need(what == 0 || what == 1);
        return what == 0 ? college.bends[glass] : college.kinds[glass];
    }

    public int place(int place) throws IllegalArgumentException {
        need(isPlace(place));
        return now.muchNear(place, 0);
    }

    public int turn(int fellow, int part, int glass) throws NoSuchElementException, IllegalArgumentException {
        needFellow(fellow);
        needGlass(glass);
        need(isPart(part));
        return optics.turnOf(now, fellow, part, glass, now.within[fellow * PARTS + part]);
    }

    public int would(int part, int much, int bend, int all, int taken, int turns, int day, int fellow)
            throws IllegalArgumentException {
        need(isPart(part) && much >= 0 && much <= MOST_TOLD && bend >= 1 && bend <= 9);
        need(all >= 0 && all <= MOST_TOLD_IN_ALL && taken >= 0 && taken <= MOST_TOLD);
        need(turns >= 0 && turns <= 999 && day >= 0 && day <= LAST_DAY);
        need(fellow >= 0 && fellow < MOST_FELLOWS);
        int[] known = optics.known;
        known[Law.PART] = part;
        known[Law.MUCH] = much;
        known[Law.BEND] = bend;
        known[Law.ALL] = all;
        known[Law.TAKEN] = taken;
        known[Law.TURNS] = turns;
        known[Law.DAY] = day;
        known[Law.FELLOW] = fellow;
        return optics.bounded(law.valueFor(known));
    }

    // ---- what is asked ----

    public int ahead(int n, int what) throws IllegalArgumentException {
        need(n >= 0 && n <= 99 && (what == 0 || what == 1));
        return what == 0 ? now.wallAfter(n) : now.litBits(n);
    }

    public int spread(int fellows) throws IllegalArgumentException {
        need(areFellows(fellows));
        return now.spreadOf(fellows);
    }

    public int bow(int what) throws IllegalArgumentException {
        need(what == 0 || what == 1);
        int best = NONE;
        int bestSpread = NONE;
        int bestMuch = 0;
        for (int set = 3; set < 1 << college.fellows; set++) {
            if (Integer.bitCount(set) < 2) {
                continue;
            }
            int width = now.spreadOf(set);
            int much = now.muchWithin(set);
            if (best == NONE || width < bestSpread || width == bestSpread && much > bestMuch) {
                best = set;
                bestSpread = width;
                bestMuch = much;
            }
        }
        return what == 0 ? best : bestSpread;
    }

    public int through(int fellow, int part, int place) throws NoSuchElementException, IllegalArgumentException {
        needFellow(fellow);
        need(isPart(part) && isPlace(place));
        optics.turnByAllGlasses(now, fellow, part);
        int best = NONE;
        for (int set = 0; set < 1 << college.glasses; set++) {
            if (optics.sumOfTurns(set) == place
                    && (best == NONE || Integer.bitCount(set) < Integer.bitCount(best))) {
                best = set;
            }
        }
        return best;
    }

    public int serves(int part, int n) throws IllegalArgumentException {
        need(isPart(part) && n >= 0 && n <= MOST_TOLD);
        int best = NONE;
        int nearest = 0;
        for (int fellow = 0; fellow < college.fellows; fellow++) {
            int off = Math.abs(now.within[fellow * PARTS + part] - n);
            if (best == NONE || off < nearest) {
                best = fellow;
                nearest = off;
            }
        }
        return best;
    }

    public int fits(int what) throws IllegalArgumentException {
        need(what == 0 || what == 1);
        pairs.gather(now);
        return what == 0 ? pairs.found : pairs.earliest;
    }

    public int look(int what) throws IllegalArgumentException {
        need(what == 0 || what == 1);
        pairs.gather(now);
        int best = NONE;
        int fewest = NONE;
        for (int place = 0; place < college.places; place++) {
            if (book.tells(place)) {
                continue;
            }
            int left = pairs.leftAtWorst(place);
            if (best == NONE || left < fewest) {
                best = place;
                fewest = left;
            }
        }
        return what == 0 ? best : fewest;
    }

    public int swings(int fellow, int part, int q) throws NoSuchElementException, IllegalArgumentException {
        needFellow(fellow);
        need(isPart(part) && isQuota(q));
        int swinging = 0;
        for (int set = 0; set < 1 << PARTS; set++) {
            swinging += isSwing(fellow, part, q, set) ? 1 : 0;
        }
        return swinging;
    }

    public int power(int fellow, int part, int q, int half) throws NoSuchElementException, IllegalArgumentException {
        needFellow(fellow);
        need(isPart(part) && isQuota(q) && (half == 0 || half == 1));
        int orders = 0;
        for (int set = 0; set < 1 << PARTS; set++) {
            if (isSwing(fellow, part, q, set)) {
                int came = Integer.bitCount(set);
                orders += FACTORIALS[came] * FACTORIALS[PARTS - 1 - came];
            }
        }
        return (int) inLeastTerms(orders, ORDERS, half);
    }

    public long green(int n, int q, int half) throws IllegalArgumentException {
        need(n >= 0 && n <= 12 && q >= 0 && q <= 16 && (half == 0 || half == 1));
        long all = 1;
        long never = 1;
        for (int i = 0; i < n; i++) {
            all *= 16;
            never *= 16 - q;
        }
        return inLeastTerms(all - never, all, half);
    }

    public int lookers(int v, int w, int what) throws IllegalArgumentException {
        need(v >= 0 && v <= 99 && w >= 0 && w <= 99 && what >= 0 && what <= 2);
        int rests = 0;
        int earliest = NONE;
        int together = 0;
        for (int one = 0; one <= 1; one++) {
            for (int other = 0; other <= 1; other++) {
                if (!wouldStay(one, other, v, w) || !wouldStay(other, one, v, w)) {
                    continue;
                }
                if (rests == 0) {
                    earliest = 10 * one + other;
                    together = gain(one, other, v, w) + gain(other, one, v, w);
                }
                rests++;
            }
        }
        return what == 0 ? rests : what == 1 ? earliest : together;
    }

    public int light(int fellow, int fellows, int n) throws NoSuchElementException, IllegalArgumentException {
        needFellow(fellow);
        need(areFellows(fellows) && n >= 0 && n <= MOST_TOLD_IN_ALL);
        if ((fellows >> fellow & 1) == 0) {
            return 0;
        }
        int bound = 0;
        // all that is within fellows is below 2048, so the bits from there on reach every bound that matters
        for (int bit = 2048; bit > 0; bit >>= 1) {
            if (now.givenBy(fellows, bound + bit) <= n) {
                bound += bit;
            }
        }
        return Math.min(now.allWithin(fellow), bound);
    }

    public int broadest(int what) throws IllegalArgumentException {
        need(what == 0 || what == 1);
        int best = NONE;
        int most = NONE;
        for (int fellow = 0; fellow < college.fellows; fellow++) {
            int much = now.allWithin(fellow);
            if (much > most) {
                best = fellow;
                most = much;
            }
        }
        return what == 0 ? best : most;
    }

    public int strongest(int fellow, int what) throws NoSuchElementException, IllegalArgumentException {
        needFellow(fellow);
        need(what == 0 || what == 1);
        int best = now.mostPart(fellow);
        return what == 0 ? best : now.within[fellow * PARTS + best];
    }

    public int joins(int fellow, int glass) throws NoSuchElementException {
        needFellow(fellow);
        needGlass(glass);
        return optics.joinedBits(now, fellow, glass);
    }

    public int blurs(int fellow) throws NoSuchElementException {
        needFellow(fellow);
        int bits = 0;
        for (int glass = 0; glass < college.glasses; glass++) {
            if (pairs.blursBy(now, fellow, glass)) {
                bits |= 1 << glass;
            }
        }
        return bits;
    }

    public int lit() {
        int places = 0;
        for (int place = 0; place < college.places; place++) {
            places += now.muchNear(place, 0) > 0 ? 1 : 0;
        }
        return places;
    }

    public int lacks(int fellow, int part) throws NoSuchElementException, IllegalArgumentException {
        needFellow(fellow);
        need(isPart(part));
        int from = fellow * PARTS;
        return now.within[from + now.mostPart(fellow)] - now.within[from + part];
    }

    public int mates(int fellow) throws NoSuchElementException {
        needFellow(fellow);
        int bits = 0;
        for (int other = 0; other < college.fellows; other++) {
            if (other != fellow && now.isWhite(1 << fellow | 1 << other)) {
                bits |= 1 << other;
            }
        }
        return bits;
    }

    public int first(int fellow) throws NoSuchElementException {
        needFellow(fellow);
        int least = now.leastPlace(fellow);
        for (int part = 0; part < PARTS; part++) {
            int cell = fellow * PARTS + part;
            if (now.wall[cell] > 0 && now.at[cell] == least) {
                return part;
            }
        }
        return NONE;
    }

    public int halo(int place, int n) throws IllegalArgumentException {
        need(isPlace(place) && n >= 0 && n <= 99);
        return now.muchNear(place, n);
    }

    public int term(int seed, int q, int days, int what) throws IllegalArgumentException {
        need(isTerm(q, days) && what >= 0 && what <= 3);
        term.run(now, seed, q, days);
        Hall then = term.hall;
        switch (what) {
            case 0: return sum(then.within, 0, CELLS);
            case 1: return sum(then.wall, 0, CELLS);
            case 2: return sum(then.turns, 0, MOST_FELLOWS) - sum(now.turns, 0, MOST_FELLOWS);
            default: return then.whiteBits();
        }
    }

    public int span(int seed, int many, int q, int days, int what, int fellow) throws IllegalArgumentException {
        need(many >= 1 && many <= 10 && isTerm(q, days) && what >= 0 && what <= 2);
        need(isFellow(fellow));
        int least = MOST_IN_ALL;
        int most = 0;
        int having = 0;
        for (int i = 0; i < many; i++) {
            term.run(now, seed + i, q, days);
            int much = sum(term.hall.within, 0, CELLS);
            least = Math.min(least, much);
            most = Math.max(most, much);
            having += term.hall.allWithin(fellow) > 0 ? 1 : 0;
        }
        return what == 0 ? least : what == 1 ? most : having;
    }

    // ---- images and counts ----

    public int image() {
        if (imageCount >= MOST_IMAGES) {
            return -1;
        }
        images[imageCount].hall.copyFrom(now);
        images[imageCount].past.copyFrom(past);
        imageCount++;
        return imageCount;
    }

    public int restore() {
        if (imageCount == 0) {
            return -1;
        }
        imageCount--;
        now.copyFrom(images[imageCount].hall);
        past.copyFrom(images[imageCount].past);
        refusedSteps = 0;
        return imageCount;
    }

    public int status(int what) {
        return what == 0 ? noSuchCalls : what == 1 ? illegalCalls : NONE;
    }

    public int count(int what) {
        switch (what) {
            case 0: return imageCount;
            case 1: return tape.filled;
            case 2: return past.works;
            default: return NONE;
        }
    }

    // ---- what calls need ----

    private void need(boolean holds) {
        if (!holds) {
            illegalCalls++;
            throw new IllegalArgumentException("no such argument");
        }
    }

    private void needFellow(int fellow) {
        if (!isFellow(fellow)) {
            noSuchCalls++;
            throw new NoSuchElementException("no such fellow");
        }
    }

    private void needGlass(int glass) {
        if (glass < 0 || glass >= college.glasses) {
            noSuchCalls++;
            throw new NoSuchElementException("no such glass");
        }
    }

    private void startText(int n, int longest) {
        need(n >= 0 && n <= tape.filled && n <= longest);
        tape.open(n);
    }

    private boolean isFellow(int fellow) {
        return fellow >= 0 && fellow < college.fellows;
    }

    private boolean areFellows(int bits) {
        return bits >= 0 && bits < 1 << college.fellows;
    }

    private boolean isPlace(int place) {
        return place >= 0 && place < college.places;
    }

    private static boolean isPart(int part) {
        return part >= 0 && part < PARTS;
    }

    private static boolean isQuota(int q) {
        return q >= 1 && q <= MOST_TOLD_IN_ALL;
    }

    private static boolean isTerm(int q, int days) {
        return q >= 0 && q <= 16 && days >= 1 && days <= 48;
    }

    // ---- small reckonings ----

    private static int sum(int[] row, int from, int to) {
        int all = 0;
        for (int i = from; i < to; i++) {
            all += row[i];
        }
        return all;
    }

    private boolean isSwing(int fellow, int part, int q, int set) {
        if ((set >> part & 1) == 1) {
            return false;
        }
        int votes = 0;
        for (int other = 0; other < PARTS; other++) {
            votes += (set >> other & 1) * now.within[fellow * PARTS + other];
        }
        return votes < q && votes + now.within[fellow * PARTS + part] >= q;
    }

    private static int gain(int mine, int others, int v, int w) {
        return mine == others ? 0 : mine == 0 ? v : w;
    }

    private static boolean wouldStay(int mine, int others, int v, int w) {
        return gain(mine, others, v, w) >= gain(1 - mine, others, v, w);
    }

    private static long inLeastTerms(long above, long below, int half) {
        long a = above;
        long b = below;
        // 100 rounds are more than Euclid needs for numbers of 48 bits
        for (int i = 0; i < 100 && b != 0; i++) {
            long rest = a % b;
            a = b;
            b = rest;
        }
        long divisor = Math.max(1, a);
        return half == 0 ? above / divisor : below / divisor;
    }

    /** The bytes that were fed, and the one text of them that is being read. */
    private static final class Tape {
        private final int[] bytes;
        private int filled;
        private int length;
        private int at;
        private int faultKind;
        private int faultPlace;

        Tape() {
            bytes = new int[TAPE_BYTES];
            faultPlace = NONE;
        }

        void put(int number) {
            for (int shift = 24; shift >= 0 && filled < TAPE_BYTES; shift -= 8) {
                bytes[filled] = number >>> shift & 255;
                filled++;
            }
        }

        /** The text is read from where it lies: nothing is fed before it has been read. */
        void open(int n) {
            length = n;
            at = 0;
            filled = 0;
            faultKind = 0;
            faultPlace = NONE;
        }

        boolean isWhole() {
            return faultKind == 0;
        }

        /** Texts are read from the left, so the fault that comes first is the one that counts. */
        boolean fail(int kind, int place) {
            if (faultKind == 0) {
                faultKind = kind;
                faultPlace = place;
            }
            return false;
        }

        /** Where the next sign stands, behind blanks; the length, if there is none. */
        int next() {
            while (at < length && bytes[at] == ' ') {
                at++;
            }
            return at;
        }

        boolean ended() {
            return next() >= length;
        }

        boolean sees(char sign) {
            return next() < length && bytes[at] == sign;
        }

        boolean seesDigit() {
            return next() < length && isDigit(bytes[at]);
        }

        boolean takes(char sign) {
            if (next() >= length || bytes[at] != sign) {
                return false;
            }
            at++;
            return true;
        }

        boolean wants(char sign) {
            return takes(sign) || fail(MISPLACED, at);
        }

        /** A number of least to most; NONE with a fault. */
        int number(int least, int most) {
            int start = next();
            int value = 0;
            while (at < length && isDigit(bytes[at])) {
                // no text asks for as much as 100,000: a longer number stays wrong, and never wraps
                value = Math.min(100000, value * 10 + bytes[at] - '0');
                at++;
            }
            if (at == start) {
                fail(MISPLACED, start);
                return NONE;
            }
            if (value < least || value > most) {
                fail(NO_SUCH_NUMBER, start);
                return NONE;
            }
            return value;
        }

        /** Which of the words, told with a blank behind each, stands there; NONE with a fault. */
        int word(String words) {
            int start = next();
            while (at < length && bytes[at] >= 'a' && bytes[at] <= 'z') {
                at++;
            }
            int which = 0;
            int from = 0;
            for (int i = 0; i < words.length(); i++) {
                if (words.charAt(i) == ' ') {
                    if (i - from == at - start && isRead(words, from, start)) {
                        return which;
                    }
                    which++;
                    from = i + 1;
                }
            }
            fail(MISPLACED, start);
            return NONE;
        }

        private boolean isRead(String words, int from, int start) {
            for (int i = start; i < at; i++) {
                if (words.charAt(from + i - start) != bytes[i]) {
                    return false;
                }
            }
            return true;
        }

        private static boolean isDigit(int sign) {
            return sign >= '0' && sign <= '9';
        }
    }

    /** Fellows as they come, glasses and the wall: what a college's text tells. */
    private static final class College {
        private static final String WORDS = "fellow glass wall ";
        private static final int FELLOW = 0;
        private static final int GLASS = 1;

        private final int[] much;
        private final int[] bends;
        private final int[] kinds;
        private int fellows;
        private int glasses;
        private int places;

        College() {
            much = new int[CELLS];
            bends = new int[MOST_GLASSES];
            kinds = new int[MOST_GLASSES];
            places = PLACES_WITHOUT_WALL;
        }

        void copyFrom(College other) {
            System.arraycopy(other.much, 0, much, 0, CELLS);
            System.arraycopy(other.bends, 0, bends, 0, MOST_GLASSES);
            System.arraycopy(other.kinds, 0, kinds, 0, MOST_GLASSES);
            fellows = other.fellows;
            glasses = other.glasses;
            places = other.places;
        }

        boolean parts(int glass) {
            return kinds[glass] == 0;
        }

        boolean read(Tape tape) {
            fellows = 0;
            glasses = 0;
            places = PLACES_WITHOUT_WALL;
            Arrays.fill(much, 0);
            for (int clauses = 0; clauses <= MOST_CLAUSES && !tape.ended(); clauses++) {
                readClause(tape, clauses);
                if (!tape.isWhole()) {
                    return false;
                }
            }
            return true;
        }

        private void readClause(Tape tape, int before) {
            int start = tape.next();
            int word = tape.word(WORDS);
            if (word == NONE) {
                return;
            }
            if (before >= MOST_CLAUSES || word == FELLOW && fellows >= MOST_FELLOWS
                    || word == GLASS && glasses >= MOST_GLASSES) {
                tape.fail(TOO_MANY, start);
                return;
            }
            if (word == FELLOW) {
                readFellow(tape);
            } else if (word == GLASS) {
                bends[glasses] = tape.number(1, 9);
                kinds[glasses] = tape.number(0, 1);
                glasses++;
            } else {
                places = tape.number(10, MOST_PLACES);
            }
            tape.wants(';');
        }

        private void readFellow(Tape tape) {
            for (int part = 0; part < PARTS; part++) {
                much[fellows * PARTS + part] = tape.number(0, MOST_OF_A_PART);
            }
            fellows++;
        }
    }

    /** By how much a part turns, kept so that each sign stands behind what it joins. */
    private static final class Law {
        private static final int PART = 0;
        private static final int MUCH = 1;
        private static final int BEND = 2;
        private static final int ALL = 3;
        private static final int TAKEN = 4;
        private static final int TURNS = 5;
        private static final int DAY = 6;
        private static final int FELLOW = 7;
        private static final int NAMES = 8;
        private static final int LEAST_WORD = 8;
        private static final String WORDS = "part much bend all taken turns day fellow least most ";

        /** Numbers are kept as themselves, names from here on, signs behind these. */
        private static final int NAME = 1000;
        private static final int PLUS = 1100;
        private static final int MINUS = 1101;
        private static final int TIMES = 1102;
        private static final int OVER = 1103;
        private static final int REST = 1104;
        private static final int LEAST = 1105;
        private static final int MOST = 1106;

        private final int[] code;
        private final int[] stack;
        private int length;

        Law() {
            code = new int[LAW_BYTES + 1];
            stack = new int[LAW_BYTES + 1];
            becomePlain();
        }

        void becomePlain() {
            code[0] = NAME + PART;
            code[1] = 1;
            code[2] = PLUS;
            code[3] = NAME + BEND;
            code[4] = TIMES;
            length = 5;
        }

        void copyFrom(Law other) {
            System.arraycopy(other.code, 0, code, 0, code.length);
            length = other.length;
        }

        boolean read(Tape tape) {
            length = 0;
            return readSum(tape, 0) && (tape.ended() || tape.fail(MISPLACED, tape.next()));
        }

        private boolean readSum(Tape tape, int open) {
            boolean reads = readProduct(tape, open);
            for (int i = 0; i < LAW_BYTES && reads; i++) {
                int sign = tape.takes('+') ? PLUS : tape.takes('-') ? MINUS : NONE;
                if (sign == NONE) {
                    return true;
                }
                reads = readProduct(tape, open) && lay(sign);
            }
            return reads;
        }

        private boolean readProduct(Tape tape, int open) {
            boolean reads = readUnit(tape, open);
            for (int i = 0; i < LAW_BYTES && reads; i++) {
                int sign = tape.takes('*') ? TIMES : tape.takes('/') ? OVER : tape.takes('%') ? REST : NONE;
                if (sign == NONE) {
                    return true;
                }
                reads = readUnit(tape, open) && lay(sign);
            }
            return reads;
        }

        private boolean readUnit(Tape tape, int open) {
            int start = tape.next();
            if (tape.seesDigit()) {
                int number = tape.number(0, NAME - 1);
                return number != NONE && lay(number);
            }
            if (tape.takes('(')) {
                return open < DEEPEST
                        ? readSum(tape, open + 1) && tape.wants(')')
                        : tape.fail(TOO_MANY, start);
            }
            int word = tape.word(WORDS);
            if (word == NONE) {
                return false;
            }
            if (word < NAMES) {
                return lay(NAME + word);
            }
            if (open >= DEEPEST) {
                return tape.fail(TOO_MANY, start);
            }
            return tape.wants('[') && readSum(tape, open + 1)
                    && tape.wants(',') && readSum(tape, open + 1)
                    && tape.wants(']') && lay(word == LEAST_WORD ? LEAST : MOST);
        }

        /** Each piece stands for a byte of the text at least, so there is always room. */
        private boolean lay(int piece) {
            if (length >= code.length) {
                return false;
            }
            code[length] = piece;
            length++;
            return true;
        }

        int valueFor(int[] known) {
            int top = 0;
            for (int i = 0; i < length; i++) {
                int piece = code[i];
                if (piece < PLUS) {
                    if (top >= stack.length) {
                        return 0;
                    }
                    stack[top] = piece < NAME ? piece : known[piece - NAME];
                    top++;
                } else {
                    if (top < 2) {
                        return 0;
                    }
                    top--;
                    stack[top - 1] = joined(piece, stack[top - 1], stack[top]);
                }
            }
            return stack[0];
        }

        private static int joined(int sign, int a, int b) {
            switch (sign) {
                case PLUS: return a + b;
                case MINUS: return a - b;
                case TIMES: return a * b;
                case OVER: return b == 0 ? 0 : a / b;
                case REST: return b == 0 ? 0 : a % b;
                case LEAST: return a < b ? a : b;
                default: return a > b ? a : b;
            }
        }
    }

    /** Lines of what was seen where. */
    private static final class Book {
        private final int[] places;
        private final int[] muches;
        private int lines;

        Book() {
            places = new int[MOST_LINES];
            muches = new int[MOST_LINES];
        }

        void copyFrom(Book other) {
            System.arraycopy(other.places, 0, places, 0, MOST_LINES);
            System.arraycopy(other.muches, 0, muches, 0, MOST_LINES);
            lines = other.lines;
        }

        boolean read(Tape tape, int wall) {
            lines = 0;
            for (int i = 0; i <= MOST_LINES && !tape.ended(); i++) {
                readLine(tape, wall);
                if (!tape.isWhole()) {
                    return false;
                }
            }
            return true;
        }

        private void readLine(Tape tape, int wall) {
            int start = tape.next();
            int place = tape.number(0, wall - 1);
            if (lines >= MOST_LINES) {
                tape.fail(TOO_MANY, start);
                return;
            }
            places[lines] = place;
            muches[lines] = tape.number(0, MOST_TOLD);
            lines++;
            tape.wants(';');
        }

        boolean tells(int place) {
            for (int i = 0; i < lines; i++) {
                if (places[i] == place) {
                    return true;
                }
            }
            return false;
        }

        /** Whether all lines are right, by how much there is at each place. */
        boolean isRight(int[] row) {
            for (int i = 0; i < lines; i++) {
                int place = places[i];
                if (place < 0 || place >= row.length || row[place] != muches[i]) {
                    return false;
                }
            }
            return true;
        }
    }

    /** All that work changes: what is within fellows, on the wall, and taken; cells go by fellow, then part. */
    private static final class Hall {
        private final int[] within;
        private final int[] wall;
        private final int[] at;
        private final int[] taken;
        private final int[] turns;
        private int day;

        Hall() {
            within = new int[CELLS];
            wall = new int[CELLS];
            at = new int[CELLS];
            taken = new int[CELLS];
            turns = new int[MOST_FELLOWS];
        }

        void copyFrom(Hall other) {
            System.arraycopy(other.within, 0, within, 0, CELLS);
            System.arraycopy(other.wall, 0, wall, 0, CELLS);
            System.arraycopy(other.at, 0, at, 0, CELLS);
            System.arraycopy(other.taken, 0, taken, 0, CELLS);
            System.arraycopy(other.turns, 0, turns, 0, MOST_FELLOWS);
            day = other.day;
        }

        void open(College college) {
            System.arraycopy(college.much, 0, within, 0, CELLS);
            Arrays.fill(wall, 0);
            Arrays.fill(at, 0);
            Arrays.fill(taken, 0);
            Arrays.fill(turns, 0);
            day = 0;
        }

        boolean takeOut(int cell, int n) {
            if (within[cell] < n) {
                return false;
            }
            within[cell] -= n;
            taken[cell] += n;
            return true;
        }

        boolean giveBack(int cell, int n) {
            if (taken[cell] < n) {
                return false;
            }
            taken[cell] -= n;
            within[cell] += n;
            return true;
        }

        /** A fellow has as much as he himself has, so two that are one are refused, too. */
        boolean change(int one, int other) {
            int much = within[one];
            if (much == within[other]) {
                return false;
            }
            within[one] = within[other];
            within[other] = much;
            return true;
        }

        void passDay() {
            for (int cell = 0; cell < CELLS; cell++) {
                if (wall[cell] > 0) {
                    wall[cell]--;
                }
            }
            day++;
        }

        int allWithin(int fellow) {
            return sum(within, fellow * PARTS, fellow * PARTS + PARTS);
        }

        int muchWithin(int fellows) {
            return givenBy(fellows, MOST_IN_ALL);
        }

        /** What told fellows get, if none gets more than the bound. */
        int givenBy(int fellows, int bound) {
            int given = 0;
            for (int fellow = 0; fellow < MOST_FELLOWS; fellow++) {
                if ((fellows >> fellow & 1) == 1) {
                    given += Math.min(allWithin(fellow), bound);
                }
            }
            return given;
        }

        int spreadOf(int fellows) {
            int most = 0;
            int least = MOST_IN_ALL;
            for (int part = 0; part < PARTS; part++) {
                int much = 0;
                for (int fellow = 0; fellow < MOST_FELLOWS; fellow++) {
                    much += (fellows >> fellow & 1) * within[fellow * PARTS + part];
                }
                most = Math.max(most, much);
                least = Math.min(least, much);
            }
            return most - least;
        }

        boolean isWhite(int fellows) {
            return spreadOf(fellows) == 0 && muchWithin(fellows) > 0;
        }

        int whiteBits() {
            int bits = 0;
            for (int fellow = 0; fellow < MOST_FELLOWS; fellow++) {
                if (isWhite(1 << fellow)) {
                    bits |= 1 << fellow;
                }
            }
            return bits;
        }

        int darkBits(int fellow) {
            int bits = 0;
            for (int part = 0; part < PARTS; part++) {
                int cell = fellow * PARTS + part;
                if (within[cell] == 0 && wall[cell] == 0) {
                    bits |= 1 << part;
                }
            }
            return bits;
        }

        /** Fellows of whom anything lies on the wall in so many days. */
        int litBits(int days) {
            int bits = 0;
            for (int cell = 0; cell < CELLS; cell++) {
                if (wall[cell] > days) {
                    bits |= 1 << cell / PARTS;
                }
            }
            return bits;
        }

        int wallAfter(int days) {
            int much = 0;
            for (int cell = 0; cell < CELLS; cell++) {
                much += Math.max(0, wall[cell] - days);
            }
            return much;
        }

        int leastPlace(int fellow) {
            int least = NONE;
            for (int cell = fellow * PARTS; cell < fellow * PARTS + PARTS; cell++) {
                if (wall[cell] > 0 && (least == NONE || at[cell] < least)) {
                    least = at[cell];
                }
            }
            return least;
        }

        int greatestPlace(int fellow) {
            int greatest = NONE;
            for (int cell = fellow * PARTS; cell < fellow * PARTS + PARTS; cell++) {
                if (wall[cell] > 0) {
                    greatest = Math.max(greatest, at[cell]);
                }
            }
            return greatest;
        }

        int muchNear(int place, int n) {
            int much = 0;
            for (int cell = 0; cell < CELLS; cell++) {
                if (Math.abs(at[cell] - place) <= n) {
                    much += wall[cell];
                }
            }
            return much;
        }

        int mostPart(int fellow) {
            int best = 0;
            for (int part = 1; part < PARTS; part++) {
                if (within[fellow * PARTS + part] > within[fellow * PARTS + best]) {
                    best = part;
                }
            }
            return best;
        }

        /** Whether two parts of a fellow lie at one place. */
        boolean isBlurred(int fellow) {
            for (int one = fellow * PARTS; one < fellow * PARTS + PARTS; one++) {
                for (int other = fellow * PARTS; other < one; other++) {
                    if (wall[one] > 0 && wall[other] > 0 && at[one] == at[other]) {
                        return true;
                    }
                }
            }
            return false;
        }
    }

    /** How all was ahead of each work that can be undone. */
    private static final class Past {
        private final Hall[] halls;
        private int works;

        Past() {
            halls = new Hall[MOST_WORKS];
            for (int i = 0; i < MOST_WORKS; i++) {
                halls[i] = new Hall();
            }
        }

        void push(Hall hall) {
            if (works < MOST_WORKS) {
                halls[works].copyFrom(hall);
                works++;
            }
        }

        void popInto(Hall hall) {
            if (works > 0) {
                works--;
                hall.copyFrom(halls[works]);
            }
        }

        void copyFrom(Past other) {
            works = other.works;
            for (int i = 0; i < works; i++) {
                halls[i].copyFrom(other.halls[i]);
            }
        }
    }

    /** What an image keeps. */
    private static final class Image {
        private final Hall hall;
        private final Past past;

        Image() {
            hall = new Hall();
            past = new Past();
        }
    }

    /** What glasses do by the law. */
    private static final class Optics {
        private final College college;
        private final Law law;
        private final int[] known;
        private final int[] partTurns;
        private final int[] glassTurns;

        Optics(College college, Law law) {
            this.college = college;
            this.law = law;
            known = new int[Law.NAMES];
            partTurns = new int[PARTS];
            glassTurns = new int[MOST_GLASSES];
        }

        int turnOf(Hall hall, int fellow, int part, int glass, int much) {
            known[Law.PART] = part;
            known[Law.MUCH] = much;
            known[Law.BEND] = college.bends[glass];
            known[Law.ALL] = hall.allWithin(fellow);
            known[Law.TAKEN] = hall.taken[fellow * PARTS + part];
            known[Law.TURNS] = hall.turns[fellow];
            known[Law.DAY] = hall.day;
            known[Law.FELLOW] = fellow;
            return bounded(law.valueFor(known));
        }

        int bounded(int value) {
            return value < 0 ? 0 : value < college.places ? value : college.places - 1;
        }

        boolean partBy(Hall hall, int fellow, int glass) {
            if (!college.parts(glass) || hall.allWithin(fellow) == 0) {
                return false;
            }
            int from = fellow * PARTS;
            for (int part = 0; part < PARTS; part++) {
                partTurns[part] = turnOf(hall, fellow, part, glass, hall.within[from + part]);
            }
            for (int part = 0; part < PARTS; part++) {
                int cell = from + part;
                if (hall.within[cell] > 0) {
                    hall.wall[cell] += hall.within[cell];
                    hall.at[cell] = partTurns[part];
                    hall.within[cell] = 0;
                }
            }
            hall.turns[fellow]++;
            return true;
        }

        int joinedBits(Hall hall, int fellow, int glass) {
            int bits = 0;
            for (int part = 0; part < PARTS && !college.parts(glass); part++) {
                int cell = fellow * PARTS + part;
                int much = hall.wall[cell];
                if (much > 0 && hall.at[cell] == turnOf(hall, fellow, part, glass, much)) {
                    bits |= 1 << part;
                }
            }
            return bits;
        }

        boolean joinBy(Hall hall, int fellow, int glass) {
            int bits = joinedBits(hall, fellow, glass);
            for (int part = 0; part < PARTS; part++) {
                int cell = fellow * PARTS + part;
                if ((bits >> part & 1) == 1) {
                    hall.within[cell] += hall.wall[cell];
                    hall.wall[cell] = 0;
                }
            }
            return bits != 0;
        }

        /** What is within the fellow goes through each glass that parts by itself. */
        void turnByAllGlasses(Hall hall, int fellow, int part) {
            for (int glass = 0; glass < college.glasses; glass++) {
                glassTurns[glass] = turnOf(hall, fellow, part, glass, hall.within[fellow * PARTS + part]);
            }
        }

        /** The turns of a set of glasses together; NONE, if one of them joins. */
        int sumOfTurns(int set) {
            int together = 0;
            for (int glass = 0; glass < college.glasses; glass++) {
                if ((set >> glass & 1) == 1) {
                    if (!college.parts(glass)) {
                        return NONE;
                    }
                    together += glassTurns[glass];
                }
            }
            return together;
        }
    }

    /** Steps as they were written, and their doing; an again's own steps stand right behind it, up to its end. */
    private static final class Work {
        private static final String WORDS = "part join take give swap day again ";
        private static final int PART = 0;
        private static final int JOIN = 1;
        private static final int TAKE = 2;
        private static final int GIVE = 3;
        private static final int SWAP = 4;
        private static final int DAY = 5;
        private static final int AGAIN = 6;
        private static final int MOST_AGAIN = 40;

        private final Tape tape;
        private final College college;
        private final Optics optics;
        private final int[] kinds;
        private final int[] firsts;
        private final int[] seconds;
        private final int[] thirds;
        private final int[] ends;
        private int written;
        private int begun;
        private int done;
        private int refused;

        Work(Tape tape, College college, Optics optics) {
            this.tape = tape;
            this.college = college;
            this.optics = optics;
            kinds = new int[WORK_BYTES];
            firsts = new int[WORK_BYTES];
            seconds = new int[WORK_BYTES];
            thirds = new int[WORK_BYTES];
            ends = new int[WORK_BYTES];
        }

        boolean read() {
            written = 0;
            begun = 0;
            done = 0;
            refused = 0;
            return readSteps(0);
        }

        private boolean readSteps(int open) {
            for (int i = 0; i < WORK_BYTES; i++) {
                if (open == 0 ? tape.ended() : tape.sees(']')) {
                    return true;
                }
                if (!readStep(open) || !tape.wants(';')) {
                    return false;
                }
            }
            return false;
        }

        private boolean readStep(int open) {
            int start = tape.next();
            int kind = tape.word(WORDS);
            if (kind == NONE) {
                return false;
            }
            if (written >= kinds.length || kind == AGAIN && open >= DEEPEST) {
                return tape.fail(TOO_MANY, start);
            }
            int step = written;
            written++;
            kinds[step] = kind;
            if (kind == AGAIN) {
                firsts[step] = tape.number(0, MOST_AGAIN);
                boolean reads = tape.isWhole() && tape.wants('[') && readSteps(open + 1) && tape.wants(']');
                ends[step] = written;
                return reads;
            }
            if (kind != DAY) {
                readNumbers(step, kind);
            }
            return tape.isWhole();
        }

        private void readNumbers(int step, int kind) {
            firsts[step] = tape.number(0, college.fellows - 1);
            if (kind == PART || kind == JOIN) {
                seconds[step] = tape.number(0, college.glasses - 1);
                return;
            }
            if (kind == SWAP) {
                seconds[step] = tape.number(0, college.fellows - 1);
                thirds[step] = tape.number(0, PARTS - 1);
                return;
            }
            seconds[step] = tape.number(0, PARTS - 1);
            thirds[step] = tape.number(1, MOST_OF_A_PART);
        }

        /** Does the steps of one row; a work that was read is done once, its counts begin with the reading. */
        private void perform(Hall hall, int from, int to, int open) {
            if (open > DEEPEST) {
                return;
            }
            for (int step = from; step < to && begun < MOST_BEGUN; step++) {
                begun++;
                if (kinds[step] == AGAIN) {
                    int end = ends[step];
                    for (int i = 0; i < firsts[step] && begun < MOST_BEGUN; i++) {
                        perform(hall, step + 1, end, open + 1);
                    }
                    step = Math.max(step, end - 1);
                } else if (isDone(hall, step)) {
                    done++;
                } else {
                    refused++;
                }
            }
        }

        private boolean isDone(Hall hall, int step) {
            int a = firsts[step];
            int b = seconds[step];
            int c = thirds[step];
            switch (kinds[step]) {
                case PART: return optics.partBy(hall, a, b);
                case JOIN: return optics.joinBy(hall, a, b);
                case TAKE: return hall.takeOut(a * PARTS + b, c);
                case GIVE: return hall.giveBack(a * PARTS + b, c);
                case SWAP: return hall.change(a * PARTS + c, b * PARTS + c);
                default: break;
            }
            if (hall.day >= LAST_DAY) {
                return false;
            }
            hall.passDay();
            return true;
        }
    }

    /** Pairs of a fellow and a glass that parts, by what would lie where. */
    private static final class Pairs {
        private final College college;
        private final Book book;
        private final Optics optics;
        private final Hall hall;
        private final int[][] rows;
        private final int[] tally;
        private int found;
        private int earliest;

        Pairs(College college, Book book, Optics optics) {
            this.college = college;
            this.book = book;
            this.optics = optics;
            hall = new Hall();
            rows = new int[MOST_FELLOWS * MOST_GLASSES][MOST_PLACES];
            tally = new int[MOST_IN_ALL + 1];
        }

        /** Of the pairs by which the book is right: how many, the earliest, and a row of the wall for each. */
        void gather(Hall now) {
            found = 0;
            earliest = NONE;
            for (int fellow = 0; fellow < college.fellows; fellow++) {
                for (int glass = 0; glass < college.glasses; glass++) {
                    if (college.parts(glass) && fitsBook(now, fellow, glass)) {
                        earliest = found == 0 ? 10 * fellow + glass : earliest;
                        found++;
                    }
                }
            }
        }

        private boolean fitsBook(Hall now, int fellow, int glass) {
            if (found >= rows.length) {
                return false;
            }
            int[] row = rows[found];
            Arrays.fill(row, 0);
            hall.copyFrom(now);
            optics.partBy(hall, fellow, glass);
            for (int cell = 0; cell < CELLS; cell++) {
                int place = hall.at[cell];
                if (place >= 0 && place < MOST_PLACES) {
                    row[place] += hall.wall[cell];
                }
            }
            return book.isRight(row);
        }

        int leftAtWorst(int place) {
            int worst = 0;
            for (int i = 0; i < found; i++) {
                int much = rows[i][place];
                if (much >= 0 && much < tally.length) {
                    tally[much]++;
                    worst = Math.max(worst, tally[much]);
                }
            }
            for (int i = 0; i < found; i++) {
                int much = rows[i][place];
                if (much >= 0 && much < tally.length) {
                    tally[much] = 0;
                }
            }
            return worst;
        }

        boolean blursBy(Hall now, int fellow, int glass) {
            hall.copyFrom(now);
            return optics.partBy(hall, fellow, glass) && hall.isBlurred(fellow);
        }
    }

    /** Days that go by seeds, in a hall of their own. */
    private static final class Term {
        private final College college;
        private final Optics optics;
        private final Hall hall;
        private int seed;

        Term(College college, Optics optics) {
            this.college = college;
            this.optics = optics;
            hall = new Hall();
        }

        void run(Hall now, int firstSeed, int q, int days) {
            hall.copyFrom(now);
            seed = firstSeed;
            for (int i = 0; i < days; i++) {
                if (college.fellows > 0 && college.glasses > 0) {
                    passThroughGlass();
                    loseByChance(q);
                }
                hall.passDay();
            }
        }

        private void passThroughGlass() {
            int fellow = draw(college.fellows);
            int glass = draw(college.glasses);
            if (!optics.partBy(hall, fellow, glass)) {
                optics.joinBy(hall, fellow, glass);
            }
        }

        private void loseByChance(int q) {
            if (draw(16) < q) {
                int fellow = draw(college.fellows);
                int part = draw(PARTS);
                hall.takeOut(fellow * PARTS + part, 1);
            }
        }

        private int draw(int many) {
            seed = seed * 1103515245 + 12345;
            return many < 1 ? 0 : (seed >>> 16 & 32767) % many;
        }
    }
}
