/** The boundaries that a TERM, promises 37 and 38, and promises 39 to 42 name. */
public final class TermEdgeTest {
    private static final Check check = new Check("TermEdgeTest");
    private static final String WHITE = "fellow 5 5 5 5 5 5 5;";

    public static void main(String[] args) {
        draws();
        oneDay();
        manyDays();
        belowQ();
        whoLoses();
        whatCannotBeTaken();
        partOrJoin();
        joinThatCannot();
        withoutAny();
        beyondTheLastDay();
        fromNowOn();
        spanOfOne();
        spanOfTen();
        spanHaving();
        images();
        imagesOfWorks();
        statusAndCount();
        check.end();
    }

    /** The document's DRAW, reckoned with 64 bits: the draws of a seed, one by one. */
    private static int[] draws(int seed, int many) {
        int[] all = new int[many];
        long s = seed & 0xffffffffL;
        for (int i = 0; i < many; i++) {
            s = (s * 1103515245L + 12345L) % 4294967296L;
            all[i] = (int) (s / 65536L % 32768L);
        }
        return all;
    }

    /** A seed whose draws, each by how many there are, leave what is asked; -1 in what is asked: anything. */
    private static int seedOf(int[] by, int... left) {
        for (int seed = -5000000; seed < 5000000; seed++) {
            int[] d = draws(seed, by.length);
            boolean fits = true;
            for (int i = 0; i < by.length && fits; i++) {
                fits = left[i] < 0 || d[i] % by[i] == left[i];
            }
            if (fits) {
                return seed;
            }
        }
        check.same("there is such a seed", 1, 0);
        return 0;
    }

    // "DRAW: the SEED (32 bits) becomes itself times 1,103,515,245, and 12,345 (it wraps); its bits 16 to 30, what is left
    // of them."
    private static void draws() {
        int[] due = {16838, 5758, 10113, 17515, 31051, 5627, 23010, 7419};
        int[] got = draws(1, 8);
        for (int i = 0; i < due.length; i++) {
            check.same("draw " + i + " of seed 1", due[i], got[i]);
        }
        PartedFellows x = Check.with(WHITE.repeat(6) + "glass 1 0;");
        int[] seeds = {0, 1, -1, 2, 65535, 65536, 1 << 30, Integer.MAX_VALUE, Integer.MIN_VALUE, Integer.MIN_VALUE + 1, -12345};
        for (int seed : seeds) {
            int fellow = draws(seed, 1)[0] % 6;
            check.same("who is parted by seed " + seed, 63 - (1 << fellow), x.term(seed, 0, 1, 3));
        }
    }

    private static void term(String what, PartedFellows x, int seed, int q, int days, int... due) {
        for (int i = 0; i < 4; i++) {
            check.same(what + ": term(" + seed + ", " + q + ", " + days + ", " + i + ")", due[i], x.term(seed, q, days, i));
        }
    }

    private static void oneDay() {
        PartedFellows x = Check.with(WHITE + "glass 1 0;");
        String seen = Sight.of(x);
        for (int seed = -20; seed < 20; seed++) {
            term("one fellow, one glass", x, seed, 0, 1, 0, 28, 1, 0);
        }
        check.alike("nothing stays changed", seen, Sight.of(x));
        PartedFellows one = Check.with("fellow 1 1 1 1 1 1 1;glass 1 0;");
        term("1 of each fades the same day", one, 1, 0, 1, 0, 0, 1, 0);
        PartedFellows joins = Check.with(WHITE + "glass 1 1;");
        term("a glass that joins alone", joins, 1, 0, 1, 35, 0, 0, 1);
        term("a glass that joins alone", joins, 1, 0, 48, 35, 0, 0, 1);
    }

    // "A TERM of so many DAYS (1 to 48)"
    private static void manyDays() {
        PartedFellows x = Check.with("fellow 40 40 40 40 40 40 40;glass 1 0;");
        for (int days = 1; days <= 48; days++) {
            term("parted once, then it fades", x, 7, 0, days, 0, 7 * Math.max(0, 40 - days), 1, 0);
        }
        PartedFellows y = Check.with("fellow 40 0 0 0 0 0 0;".repeat(2) + "glass 1 0;glass 1 1;");
        Check.law(y, "part");
        // each time he is joined again, so that nothing but the days that it lay there is lost
        int[] d = draws(99, 3 * 48);
        int[] within = {40, 40};
        int[] wall = {0, 0};
        int parted = 0;
        for (int day = 0; day < 48; day++) {
            int f = d[3 * day] % 2;
            if (d[3 * day + 1] % 2 == 0 && within[f] > 0) {
                wall[f] += within[f];
                within[f] = 0;
                parted++;
            } else if (d[3 * day + 1] % 2 == 1) {
                within[f] += wall[f];
                wall[f] = 0;
            }
            wall[0] = Math.max(0, wall[0] - 1);
            wall[1] = Math.max(0, wall[1] - 1);
            term("day " + day, y, 99, 0, day + 1, within[0] + within[1], wall[0] + wall[1], parted, 0);
        }
    }

    // "then DRAW by 16: is it below Q: DRAW by how many FELLOWS, by 7: take of 1 (if it can be done)"
    private static void belowQ() {
        int[] by = {1, 1, 16};
        for (int drawn = 0; drawn < 16; drawn++) {
            PartedFellows x = Check.with(WHITE + "glass 1 1;");
            int seed = seedOf(by, -1, -1, drawn);
            for (int q = 0; q <= 16; q++) {
                int lost = drawn < q ? 1 : 0;
                term("drawn " + drawn, x, seed, q, 1, 35 - lost, 0, 0, 1 - lost);
            }
        }
        PartedFellows x = Check.with(WHITE + "glass 1 1;");
        for (int seed = 0; seed < 20; seed++) {
            check.same("never by 0", 35, x.term(seed, 0, 48, 0));
            check.same("each day by 16", 32, x.term(seed, 16, 3, 0));
        }
    }

    private static void whoLoses() {
        PartedFellows x = Check.with(WHITE.repeat(6) + "glass 1 1;glass 1 1;glass 1 1;");
        int[] by = {6, 3, 16, 6, 7};
        for (int fellow = 0; fellow < 6; fellow++) {
            int seed = seedOf(by, -1, -1, 0, fellow, -1);
            term("fellow " + fellow + " loses 1", x, seed, 1, 1, 209, 0, 0, 63 - (1 << fellow));
        }
        PartedFellows y = Check.with("fellow 0 0 0 0 0 0 2;fellow 2 0 0 0 0 0 0;glass 1 1;");
        int[] two = {2, 1, 16, 2, 7};
        for (int part = 0; part < 7; part++) {
            check.same("of part " + part, part == 6 ? 3 : 4, y.term(seedOf(two, -1, -1, 3, 0, part), 4, 1, 0));
            check.same("of part " + part, part == 0 ? 3 : 4, y.term(seedOf(two, -1, -1, 3, 1, part), 4, 1, 0));
        }
    }

    private static void whatCannotBeTaken() {
        PartedFellows x = Check.with("fellow 1 0 0 0 0 0 0;glass 1 1;");
        int[] by = {1, 1, 16, 1, 7, 1, 1, 16, 1, 7};
        int seed = seedOf(by, -1, -1, -1, -1, 0, -1, -1, -1, -1, 0);
        check.same("the one that there is", 0, x.term(seed, 16, 1, 0));
        check.same("none is left to take", 0, x.term(seed, 16, 2, 0));
        PartedFellows y = Check.with("fellow 9 9 9 9 9 9 9;glass 1 0;");
        term("all lies on the wall: none can be taken", y, 5, 16, 1, 0, 56, 1, 0);
        check.same("nothing stays taken", 0, y.told(8));
        PartedFellows z = Check.with(WHITE + WHITE + "glass 1 0;");
        int[] two = {2, 1, 16, 2, 7};
        term("parted, then taken from the same one", z, seedOf(two, 1, -1, 0, 1, -1), 16, 1, 35, 28, 1, 1);
        term("parted, then taken from the other one", z, seedOf(two, 1, -1, 0, 0, -1), 16, 1, 34, 28, 1, 0);
    }

    // "part, or, if that can't be done, join (if it can)"
    private static void partOrJoin() {
        PartedFellows x = Check.with(WHITE + "glass 1 0;glass 1 1;");
        int[] by = {1, 2, 16, 1, 2, 16, 1, 2, 16};
        int partJoin = seedOf(by, -1, 0, -1, -1, 1, -1, -1, 0, -1);
        term("parted", x, partJoin, 0, 1, 0, 28, 1, 0);
        term("parted, joined", x, partJoin, 0, 2, 28, 0, 1, 1);
        term("parted, joined, parted", x, partJoin, 0, 3, 0, 21, 2, 0);
        int joinPart = seedOf(by, -1, 1, -1, -1, 0, -1, -1, 0, -1);
        term("nothing to join", x, joinPart, 0, 1, 35, 0, 0, 1);
        term("parted", x, joinPart, 0, 2, 0, 28, 1, 0);
        term("nothing within, and the glass parts", x, joinPart, 0, 3, 0, 21, 1, 0);
        PartedFellows eight = Check.with(WHITE + "glass 1 1;".repeat(7) + "glass 1 0;");
        int[] last = {1, 8, 16};
        for (int glass = 0; glass < 8; glass++) {
            check.same("by glass " + glass, glass == 7 ? 1 : 0, eight.term(seedOf(last, -1, glass, -1), 0, 1, 2));
        }
    }

    private static void joinThatCannot() {
        PartedFellows x = Check.with(WHITE + "glass 1 0;glass 2 1;");
        int[] by = {1, 2, 16, 1, 2, 16};
        int seed = seedOf(by, -1, 0, -1, -1, 1, -1);
        term("all lies elsewhere", x, seed, 0, 2, 0, 21, 1, 0);
        Check.law(x, "part");
        term("all lies there", x, seed, 0, 2, 28, 0, 1, 1);
        Check.law(x, "part/4+bend-1");
        term("at 1 lie the last three, the first four come to 1", x, seed, 0, 2, 0, 21, 1, 0);
        Check.law(x, "least[part+bend,5]");
        term("at 5 lie the last three, which stay there", x, seed, 0, 2, 12, 12, 1, 0);
    }

    // "Without FELLOWS or GLASSES nothing is DRAWN, DAYS go by."
    private static void withoutAny() {
        for (int q : new int[] {0, 16}) {
            for (int days : new int[] {1, 48}) {
                term("nobody, nothing", new PartedFellows(), 1, q, days, 0, 0, 0, 0);
                term("no fellows", Check.with("glass 1 0;"), 1, q, days, 0, 0, 0, 0);
                term("no glasses", Check.with(WHITE + "fellow 1 0 0 0 0 0 0;"), 1, q, days, 36, 0, 0, 1);
            }
        }
    }

    // "DAYS go by as by day (beyond 400, too)"
    private static void beyondTheLastDay() {
        PartedFellows x = Check.with("fellow 40 40 40 40 40 40 40;glass 1 0;glass 1 1;");
        Check.work(x, "again 40[day;day;day;day;];again 38[day;];");
        Check.work(x, "again 40[day;day;day;day;];again 38[day;];");
        Check.work(x, "day;day;day;day;");
        check.same("the day", 400, x.told(3));
        int[] by = {1, 2, 16, 1, 2, 16};
        int seed = seedOf(by, -1, 0, -1, -1, 1, -1);
        Check.law(x, "day-400");
        term("parted on day 400: at 0; on day 401 all turns to 1", x, seed, 0, 2, 0, 7 * 38, 1, 0);
        Check.law(x, "(day-400)/2");
        term("on day 401 all turns to 0", x, seed, 0, 2, 7 * 39, 0, 1, 1);
        check.same("the day stays", 400, x.told(3));
    }

    /** A term goes on from what there is now: what lies there, is taken, and how often each was parted. */
    private static void fromNowOn() {
        PartedFellows x = Check.with(WHITE + WHITE + "glass 1 0;glass 1 1;");
        Check.work(x, "part 0 0;day;take 1 0 5;");
        int[] by = {2, 2, 16};
        term("joined", x, seedOf(by, 0, 1, -1), 0, 1, 28 + 30, 0, 0, 1);
        term("the other one is parted", x, seedOf(by, 1, 0, -1), 0, 1, 0, 21 + 24, 1, 0);
        term("can't be parted", x, seedOf(by, 0, 0, -1), 0, 1, 30, 21, 0, 0);
        Check.law(x, "turns*9+taken+part+1");
        term("turns and taken as they are", x, seedOf(by, 0, 1, -1), 0, 1, 30, 21, 0, 0);
        Check.law(x, "turns*9+taken+part-8");
        term("turns and taken as they are", x, seedOf(by, 0, 1, -1), 0, 1, 28 + 30, 0, 0, 1);
    }

    // "Of so many SEEDS (1 to 10; seed, seed and 1, ..): 0 the least that is within all then, 1 the most"
    private static void spanOfOne() {
        PartedFellows x = Check.with(WHITE + "fellow 3 3 3 3 3 3 3;glass 1 0;glass 1 1;");
        for (int seed = -10; seed < 10; seed++) {
            int much = x.term(seed, 9, 5, 0);
            check.same("the least of one", much, x.span(seed, 1, 9, 5, 0, 0));
            check.same("the most of one", much, x.span(seed, 1, 9, 5, 1, 1));
        }
        PartedFellows nothing = Check.with("fellow 0 0 0 0 0 0 0;glass 1 0;");
        check.same("the least", 0, nothing.span(1, 10, 16, 48, 0, 0));
        check.same("the most", 0, nothing.span(1, 10, 16, 48, 1, 0));
        check.same("nobody has anything", 0, nothing.span(1, 10, 16, 48, 2, 0));
        PartedFellows full = Check.with("fellow 40 40 40 40 40 40 40;".repeat(6) + "glass 1 1;");
        check.same("the least", 1680, full.span(1, 10, 0, 48, 0, 5));
        check.same("the most", 1680, full.span(1, 10, 0, 48, 1, 5));
        check.same("he has something by all", 10, full.span(1, 10, 0, 48, 2, 5));
    }

    private static void spanOfTen() {
        String college = WHITE + "fellow 3 3 3 3 3 3 3;glass 1 0;glass 1 1;";
        for (int seed : new int[] {0, 77, -4, Integer.MAX_VALUE, Integer.MAX_VALUE - 4, Integer.MIN_VALUE}) {
            PartedFellows x = Check.with(college);
            int least = Integer.MAX_VALUE;
            int most = -1;
            for (int many = 1; many <= 10; many++) {
                int much = x.term(seed + many - 1, 12, 3, 0);
                least = Math.min(least, much);
                most = Math.max(most, much);
                check.same("the least of " + many + " from " + seed, least, x.span(seed, many, 12, 3, 0, 0));
                check.same("the most of " + many + " from " + seed, most, x.span(seed, many, 12, 3, 1, 0));
            }
            check.same("they are not all alike", 1, most > least ? 1 : 0);
        }
    }

    // "2 by how many a FELLOW has anything within him then"
    private static void spanHaving() {
        PartedFellows x = Check.with("fellow 1 0 0 0 0 0 0;fellow 1 0 0 0 0 0 0;fellow 0 0 0 0 0 0 0;glass 1 0;");
        for (int seed = 0; seed < 30; seed++) {
            int[] having = {0, 0, 0};
            for (int i = 0; i < 10; i++) {
                int parted = draws(seed + i, 1)[0] % 3;
                having[0] += parted == 0 ? 0 : 1;
                having[1] += parted == 1 ? 0 : 1;
            }
            for (int fellow = 0; fellow < 3; fellow++) {
                check.same("fellow " + fellow + " from seed " + seed, having[fellow], x.span(seed, 10, 0, 1, 2, fellow));
            }
        }
    }

    // "how many there are; -1: there are 3"; "how many are left; -1: there is none"
    private static void images() {
        PartedFellows x = Check.with(WHITE + "glass 1 0;");
        check.same("none", -1, x.restore());
        check.same("images", 0, x.count(0));
        for (int i = 1; i <= 3; i++) {
            Check.work(x, "take 0 0 1;");
            check.same("image", i, x.image());
            check.same("images", i, x.count(0));
        }
        Check.work(x, "take 0 0 1;");
        check.same("there are 3", -1, x.image());
        check.same("images", 3, x.count(0));
        check.same("the 4th changed nothing", 4, x.told(8));
        for (int i = 2; i >= 0; i--) {
            check.same("restore", i, x.restore());
            check.same("images", i, x.count(0));
            check.same("the latest first, the 4th is none", i + 1, x.told(8));
            check.same("works", i + 1, x.count(2));
        }
        String seen = Sight.of(x);
        check.same("none is left", -1, x.restore());
        check.alike("nothing changes", seen, Sight.of(x));
        check.same("an image anew", 1, x.image());
        Check.college(x, WHITE);
        check.same("a college has none", -1, x.restore());
        check.same("images", 0, x.count(0));
        x.image();
        Check.college(x, "wall");
        check.same("a bad college leaves it", 0, x.restore());
    }

    // "An IMAGE of all that WORK changes, and of the WORKS that can be undone"
    private static void imagesOfWorks() {
        PartedFellows x = Check.with(WHITE + "fellow 1 2 3 4 5 6 7;glass 1 0;glass 1 1;");
        Check.work(x, "part 0 0;");
        Check.work(x, "day;take 1 6 2;");
        String seen = Sight.ofHall(x);
        x.image();
        x.undo();
        x.undo();
        for (int i = 0; i < 16; i++) {
            check.same("work " + i, 1, Check.work(x, "day;"));
        }
        check.same("16 are there", -20, Check.work(x, "day;"));
        check.same("restore", 0, x.restore());
        check.alike("all is as in the image", seen, Sight.ofHall(x));
        check.same("two can be undone", 2, x.count(2));
        check.same("there is room again", 1, Check.work(x, "day;"));
        check.same("undo", 2, x.undo());
        check.alike("all is as in the image", seen, Sight.ofHall(x));
        check.same("undo", 1, x.undo());
        check.same("on the wall", 35, x.told(7));
        check.same("nothing is taken", 0, x.told(8));
        check.same("undo", 0, x.undo());
        check.same("nobody was parted", 0, x.told(11));
        check.same("none", -1, x.undo());
        x.image();
        for (int i = 0; i < 16; i++) {
            Check.work(x, "day;");
        }
        x.image();
        check.same("to 16 works", 1, x.restore());
        check.same("16 works", 16, x.count(2));
        check.same("to 0 works", 0, x.restore());
        check.same("0 works", 0, x.count(2));
        check.same("none", -1, x.undo());
    }

    // "NONE for others"
    private static void statusAndCount() {
        PartedFellows x = Check.with(WHITE + "glass 1 0;");
        int[] others = {-1, 2, 3, 4, 99, Integer.MIN_VALUE, Integer.MAX_VALUE};
        check.noSuch("fellow(1, 0)", x, () -> x.fellow(1, 0));
        check.illegal("told(12)", x, () -> x.told(12));
        check.illegal("told(12)", x, () -> x.told(12));
        Check.work(x, "");
        x.work(0);
        x.work(0);
        x.image();
        Check.feed(x, " ".repeat(80));
        check.same("NoSuchElementException", 1, x.status(0));
        check.same("IllegalArgumentException", 2, x.status(1));
        check.same("images", 1, x.count(0));
        check.same("bytes", 80, x.count(1));
        check.same("works", 3, x.count(2));
        for (int what : others) {
            check.same("status(" + what + ")", -1, x.status(what));
            if (what != 2) {
                check.same("count(" + what + ")", -1, x.count(what));
            }
        }
        x.restore();
        check.same("no image keeps it", 1, x.status(0));
        check.same("no image keeps it", 2, x.status(1));
        check.same("bytes stay", 80, x.count(1));
    }
}
