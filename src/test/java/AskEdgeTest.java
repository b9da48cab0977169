/** The boundaries that the part headed 3. and promises 14 to 42 name for what is asked. */
public final class AskEdgeTest {
    private static final Check check = new Check("AskEdgeTest");
    private static final String THREE = "fellow 5 5 5 5 5 5 5;fellow 10 0 3 0 7 1 2;fellow 0 40 9 8 7 6 5;"
            + "glass 2 0;glass 2 1;glass 5 0;wall 40;";
    /** All red that six fellows may have comes to the first one by this. */
    private static final String GATHER = "part 0 0;swap 0 1 0;join 0 1;part 0 0;swap 0 2 0;join 0 1;part 0 0;swap 0 3 0;join 0 1;"
            + "part 0 0;swap 0 4 0;join 0 1;part 0 0;swap 0 5 0;join 0 1;";

    public static void main(String[] args) {
        turn();
        would();
        ahead();
        aheadOfMuch();
        spread();
        bowOfTwo();
        bowAlike();
        through();
        throughAlike();
        serves();
        fitsLines();
        fitsPairs();
        lookPlaces();
        lookPairs();
        swings();
        power();
        green();
        lookers();
        light();
        lightAlike();
        broadest();
        strongest();
        joins();
        blurs();
        blursByWhatLiesThere();
        lit();
        lacks();
        mates();
        first();
        halo();
        check.end();
    }

    private static PartedFellows gathered() {
        PartedFellows x = Check.with("fellow 40 0 0 0 0 0 1;".repeat(6) + "glass 1 0;glass 1 1;glass 9 0;wall 10;");
        check.same("all is done", 15, Check.work(x, GATHER));
        return x;
    }

    // "TURN of a FELLOW's PART by a GLASS (parts or joins), as much as is within him now."
    private static void turn() {
        PartedFellows x = Check.with("fellow 7 0 0 0 0 0 3;glass 1 0;glass 9 1;wall 20;");
        check.same("by a glass that parts", 7, x.turn(0, 6, 0));
        check.same("by one that joins", 9, x.turn(0, 0, 1));
        check.same("of what there is none", 2, x.turn(0, 1, 0));
        check.same("W less 1 at most", 19, x.turn(0, 6, 1));
        Check.law(x, "much");
        Check.work(x, "take 0 0 1;part 0 0;give 0 0 1;");
        check.same("what is within him, not what lies there", 1, x.turn(0, 0, 0));
        check.same("what is within him, not what lies there", 1, x.turn(0, 0, 1));
        check.same("nothing is", 0, x.turn(0, 6, 0));
        Check.law(x, "turns*10+taken");
        check.same("turns by now", 10, x.turn(0, 0, 0));
    }

    // "TURN by the LAW for such part (0 to 6), much (0 to 400), bend (1 to 9), all (0 to 2,800), taken (0 to 400), turns (0
    // to 999), day (0 to 400), fellow (0 to 5)."
    private static void would() {
        String[] names = {"part", "much", "bend", "all", "taken", "turns", "day", "fellow"};
        int[] least = {0, 0, 1, 0, 0, 0, 0, 0};
        int[] most = {6, 400, 9, 2800, 400, 999, 400, 5};
        PartedFellows x = Check.with("wall 99;");
        for (int i = 0; i < 8; i++) {
            int[] a = least.clone();
            Check.law(x, names[i] + "+20");
            check.same("the least " + names[i], least[i] + 20, x.would(a[0], a[1], a[2], a[3], a[4], a[5], a[6], a[7]));
            a[i] = most[i];
            Check.law(x, names[i] + "-" + most[i] / 4 + "*4+20");
            check.same("the most " + names[i], most[i] % 4 + 20, x.would(a[0], a[1], a[2], a[3], a[4], a[5], a[6], a[7]));
        }
        Check.law(x, "fellow+day+turns");
        check.same("there need be no such fellow", 5 + 7 + 9, x.would(0, 0, 1, 0, 0, 9, 7, 5));
        Check.law(x, "much-all");
        check.same("0 at least", 0, x.would(0, 400, 1, 401, 0, 0, 0, 0));
        check.same("0", 0, x.would(0, 400, 1, 400, 0, 0, 0, 0));
        check.same("W less 1", 98, x.would(0, 400, 1, 302, 0, 0, 0, 0));
        check.same("W less 1 at most", 98, x.would(0, 400, 1, 301, 0, 0, 0, 0));
    }

    // "In n DAYS (0 to 99), nothing else being done: 0 how much lies on the wall, 1 FELLOWS of whom anything does"
    private static void ahead() {
        PartedFellows x = Check.with("fellow 1 0 0 0 0 0 0;fellow 0 2 0 0 0 0 3;glass 1 0;");
        check.same("nothing lies there", 0, x.ahead(0, 0) + x.ahead(0, 1));
        Check.work(x, "part 0 0;part 1 0;");
        int[] much = {6, 3, 1, 0, 0};
        int[] bits = {3, 2, 2, 0, 0};
        for (int n = 0; n < 5; n++) {
            check.same("ahead(" + n + ", 0)", much[n], x.ahead(n, 0));
            check.same("ahead(" + n + ", 1)", bits[n], x.ahead(n, 1));
        }
        check.same("ahead(0, 0) is as now", x.told(7), x.ahead(0, 0));
        check.same("ahead(0, 1) is as now", x.told(5), x.ahead(0, 1));
        for (int n = 1; n < 4; n++) {
            Check.work(x, "day;");
            check.same("it came so", much[n], x.told(7));
            check.same("it came so", bits[n], x.told(5));
        }
    }

    // "DAYS go by as by day (beyond 400, too)"
    private static void aheadOfMuch() {
        PartedFellows x = gathered();
        Check.work(x, "part 0 0;");
        check.same("now", 241, x.ahead(0, 0));
        check.same("red alone", 239, x.ahead(1, 0));
        check.same("98 days", 142, x.ahead(98, 0));
        check.same("99 days", 141, x.ahead(99, 0));
        check.same("99 days", 1, x.ahead(99, 1));
        PartedFellows y = Check.with("fellow 40 0 0 0 0 0 0;glass 1 0;");
        Check.work(y, "again 40[day;day;day;day;];again 38[day;];");
        Check.work(y, "again 40[day;day;day;day;];again 38[day;];");
        Check.work(y, "day;day;day;part 0 0;");
        check.same("the day", 399, y.told(3));
        check.same("to 400", 39, y.ahead(1, 0));
        check.same("beyond 400", 38, y.ahead(2, 0));
        check.same("beyond 400", 1, y.ahead(39, 1));
        check.same("beyond 400", 0, y.ahead(40, 1));
        check.same("the day stays", 399, y.told(3));
    }

    // "SPREAD of FELLOWS: the most less the least of the seven sums"; "of none: 0"
    private static void spread() {
        PartedFellows x = Check.with("fellow 40 0 0 0 0 0 1;".repeat(6));
        check.same("of none", 0, x.spread(0));
        for (int fellow = 0; fellow < 6; fellow++) {
            check.same("of one", 40, x.spread(1 << fellow));
        }
        check.same("of all", 240, x.spread(63));
        check.same("all but the last", 200, x.spread(31));
        Check.work(x, "take 0 0 40;");
        check.same("what is taken is not within", 1, x.spread(1));
        PartedFellows y = Check.with("fellow 1 2 3 4 5 6 7;fellow 7 6 5 4 3 2 1;fellow 0 0 0 0 0 0 9;");
        check.same("of sums", 0, y.spread(3));
        check.same("the last part counts", 9, y.spread(4));
        check.same("of sums", 9, y.spread(7));
        check.same("of sums", 15, y.spread(5));
    }

    // "BOW: of all sets of 2 or more FELLOWS that of least SPREAD"; "NONE: there are not two"
    private static void bowOfTwo() {
        PartedFellows none = new PartedFellows();
        PartedFellows one = Check.with("fellow 1 1 1 1 1 1 1;");
        for (int what = 0; what < 2; what++) {
            check.same("nobody", -1, none.bow(what));
            check.same("not two", -1, one.bow(what));
        }
        PartedFellows two = Check.with("fellow 40 0 0 0 0 0 0;fellow 40 0 0 0 0 0 0;");
        check.same("just two", 3, two.bow(0));
        check.same("just two", 80, two.bow(1));
        // the third is white by himself, but one is no set of two
        PartedFellows x = Check.with("fellow 9 0 0 0 0 0 0;fellow 8 0 0 0 0 0 0;fellow 1 1 1 1 1 1 1;");
        check.same("the second and the third", 6, x.bow(0));
        check.same("spread", 8, x.bow(1));
        PartedFellows all = Check.with("fellow 6 0 0 0 0 0 0;fellow 0 6 6 0 0 0 0;fellow 0 0 0 6 6 6 6;");
        check.same("all three", 7, all.bow(0));
        check.same("spread", 0, all.bow(1));
        PartedFellows six = Check.with("fellow 9 0 0 0 0 0 0;".repeat(4) + "fellow 3 2 1 0 0 0 0;fellow 0 1 2 3 3 3 3;");
        check.same("the last two", 48, six.bow(0));
        check.same("spread", 0, six.bow(1));
    }

    // "of alike ones that of most within all together; of alike ones the least bits"
    private static void bowAlike() {
        PartedFellows most = Check.with("fellow 1 1 1 1 1 1 1;fellow 2 2 2 2 2 2 2;fellow 9 0 0 0 0 0 0;fellow 3 3 3 3 3 3 3;");
        check.same("of most within", 1 + 2 + 8, most.bow(0));
        Check.work(most, "take 0 0 1;");
        check.same("of most within", 2 + 8, most.bow(0));
        PartedFellows least = Check.with("fellow 9 0 0 0 0 0 0;fellow 1 1 1 1 1 1 1;fellow 0 0 0 0 0 0 0;fellow 0 0 0 0 0 0 0;");
        check.same("of the least bits", 2 + 4, least.bow(0));
        PartedFellows nothing = Check.with("fellow 0 0 0 0 0 0 0;".repeat(6));
        check.same("nothing within any", 3, nothing.bow(0));
        check.same("nothing within any", 0, nothing.bow(1));
        PartedFellows pairs = Check.with("fellow 1 0 0 0 0 0 0;fellow 0 1 0 0 0 0 0;fellow 0 0 1 0 0 0 0;");
        check.same("all have spread 1: most within", 7, pairs.bow(0));
        PartedFellows alike = Check.with("fellow 2 0 0 0 0 0 0;fellow 2 0 0 0 0 0 0;fellow 0 2 0 0 0 0 0;fellow 0 2 0 0 0 0 0;");
        // 5, 6, 9 and 10 have a spread of 2, with 4 within each
        check.same("of four alike ones the least bits", 5, alike.bow(0));
        check.same("spread", 2, alike.bow(1));
    }

    // "of all sets of GLASSES that part by which TURNS of that PART .. together are that PLACE, that of fewest; of as
    // few the least bits (0: PLACE 0); NONE"
    private static void through() {
        PartedFellows x = Check.with("fellow 3 0 0 0 0 0 0;" + "glass 1 0;".repeat(8) + "wall 10;");
        int[] due = {0, 1, 3, 7, 15, 31, 63, 127, 255, -1};
        for (int place = 0; place < 10; place++) {
            check.same("through(0, 0, " + place + ")", due[place], x.through(0, 0, place));
        }
        check.same("a part of which there is none", 1, x.through(0, 1, 2));
        check.same("the last place", -1, x.through(0, 5, 9));
        check.same("the last part", 1, x.through(0, 6, 7));
        PartedFellows y = Check.with("fellow 3 0 0 0 0 0 0;fellow 0 0 0 0 0 0 0;glass 3 1;glass 3 0;glass 4 1;glass 9 0;wall 20;");
        check.same("by no glass", 0, y.through(0, 0, 0));
        check.same("the one that joins is none such", 2, y.through(0, 0, 3));
        check.same("none", -1, y.through(0, 0, 4));
        check.same("two", 2 + 8, y.through(0, 0, 12));
        check.same("W less 1 by one glass", 8, y.through(0, 2, 19));
        check.same("nobody else counts", 2, y.through(1, 0, 3));
        PartedFellows none = Check.with("fellow 3 0 0 0 0 0 0;glass 3 1;");
        check.same("place 0", 0, none.through(0, 0, 0));
        check.same("no glass parts", -1, none.through(0, 0, 3));
        PartedFellows bare = Check.with("fellow 3 0 0 0 0 0 0;");
        check.same("place 0", 0, bare.through(0, 0, 0));
        check.same("no glasses", -1, bare.through(0, 0, 1));
    }

    private static void throughAlike() {
        PartedFellows x = Check.with("fellow 3 0 0 0 0 0 0;fellow 0 0 0 0 0 0 0;glass 1 0;glass 2 0;glass 3 0;glass 3 0;glass 4 0;glass 7 0;");
        check.same("one ahead of two", 4, x.through(0, 0, 3));
        check.same("one ahead of two", 16, x.through(0, 0, 4));
        check.same("of two the least bits: 2 and 3", 2 + 4, x.through(0, 0, 5));
        check.same("of two the least bits: 3 and 3", 4 + 8, x.through(0, 0, 6));
        check.same("one ahead of two", 32, x.through(0, 0, 7));
        check.same("of two the least bits: 1 and 7", 1 + 32, x.through(0, 0, 8));
        check.same("of three the least bits", 2 + 4 + 32, x.through(0, 0, 12));
        check.same("all of them", 63, x.through(0, 0, 20));
        check.same("none", -1, x.through(0, 0, 21));
        Check.law(x, "0");
        check.same("turns of 0: none is fewest", 0, x.through(0, 0, 0));
        check.same("turns of 0 go nowhere", -1, x.through(0, 0, 1));
        Check.law(x, "bend*(much+1)");
        check.same("much: what is within him", 1, x.through(0, 0, 4));
        check.same("that may be none", 16, x.through(1, 0, 4));
        Check.law(x, "50");
        check.same("one turn of 50", 1, x.through(0, 0, 50));
        check.same("two are beyond the wall, and not its end", -1, x.through(0, 0, 59));
    }

    // "SERVES of a PART and n: the FELLOW within whom there is n of it, or, if there is none, as near to n as may be; of
    // alike ones the first; NONE: there are no FELLOWS"
    private static void serves() {
        PartedFellows x = Check.with("fellow 5 0 0 0 0 0 9;fellow 9 0 0 0 0 0 4;fellow 7 0 0 0 0 0 4;fellow 40 0 0 0 0 0 0;");
        int[] due = {0, 0, 0, 0, 0, 0, 0, 2, 1, 1, 1};
        for (int n = 0; n <= 10; n++) {
            check.same("serves(0, " + n + ")", due[n], x.serves(0, n));
        }
        check.same("24 is nearer to 9", 1, x.serves(0, 24));
        check.same("25 is nearer to 40", 3, x.serves(0, 25));
        check.same("400", 3, x.serves(0, 400));
        check.same("just as much, of alike ones the first", 1, x.serves(6, 4));
        check.same("0 of it", 3, x.serves(6, 0));
        check.same("all have none", 0, x.serves(3, 0));
        check.same("all have none", 0, x.serves(3, 400));
        PartedFellows none = Check.with("glass 1 0;");
        check.same("no fellows", -1, none.serves(0, 0));
        check.same("no fellows", -1, none.serves(6, 400));
        PartedFellows much = gathered();
        check.same("240 is nearer to 120 than 0", 0, much.serves(0, 121));
        check.same("alike", 0, much.serves(0, 120));
        check.same("0 is nearer", 1, much.serves(0, 119));
    }

    // "FITS by BOOK: .. all lines are right: how many, the first (by FELLOW, then GLASS)"
    private static void fitsLines() {
        PartedFellows x = Check.with("fellow 40 40 40 40 40 40 40;fellow 40 40 40 40 40 40 40;fellow 1 0 0 0 0 0 0;glass 1 0;glass 9 1;glass 2 0;wall 10;");
        Check.law(x, "(bend-1)*9");
        // by the glass 0 all comes to 0, by the glass 2 to 9
        check.same("no lines: all pairs", 6, x.fits(0));
        check.same("the first", 0, x.fits(1));
        Check.book(x, "0 280;");
        check.same("at the first place", 2, x.fits(0));
        check.same("the first", 0, x.fits(1));
        Check.book(x, "9 280;");
        check.same("at the last place", 2, x.fits(0));
        check.same("the first", 2, x.fits(1));
        Check.book(x, "9 1;");
        check.same("1", 1, x.fits(0));
        check.same("1", 22, x.fits(1));
        Check.book(x, "0 0;9 0;");
        check.same("nothing anywhere", 0, x.fits(0));
        check.same("none", -1, x.fits(1));
        Check.book(x, "0 0;");
        check.same("nothing at the first place", 3, x.fits(0));
        check.same("nothing at the first place", 2, x.fits(1));
        Check.book(x, "9 281;");
        check.same("1 too much", 0, x.fits(0));
        Check.book(x, "9 279;");
        check.same("1 too few", 0, x.fits(0));
        Check.book(x, "9 280;9 280;");
        check.same("twice the same", 2, x.fits(0));
        Check.book(x, "9 280;9 1;");
        check.same("not both", 0, x.fits(0));
        Check.work(x, "part 1 2;");
        Check.book(x, "0 280;9 280;");
        check.same("with what lies there already", 1, x.fits(0));
        check.same("with what lies there already", 0, x.fits(1));
        Check.book(x, "1 0;2 0;3 0;4 0;5 0;6 0;7 0;9 281;");
        check.same("eight lines", 22, x.fits(1));
        Check.book(x, "1 0;2 0;3 0;4 0;5 0;6 0;7 0;9 282;");
        check.same("the eighth counts", -1, x.fits(1));
        Check.book(x, "1 1;2 0;3 0;4 0;5 0;6 0;7 0;9 281;");
        check.same("the first counts", -1, x.fits(1));
        PartedFellows y = Check.with("fellow 40 40 40 40 40 40 40;fellow 40 40 40 0 0 0 0;fellow 1 0 0 0 0 0 0;glass 1 0;");
        Check.law(y, "5");
        Check.work(y, "part 0 0;");
        Check.book(y, "5 400;");
        check.same("400 at one place", 1, y.fits(0));
        check.same("400 at one place", 10, y.fits(1));
    }

    // "pairs of a FELLOW and a GLASS that parts .. (if he can't be, all stays as it is)"
    private static void fitsPairs() {
        for (String college : new String[] {"", "glass 1 0;", "fellow 1 1 1 1 1 1 1;", "fellow 1 1 1 1 1 1 1;glass 1 1;"}) {
            PartedFellows none = Check.with(college);
            check.same("no pair", 0, none.fits(0));
            check.same("no pair", -1, none.fits(1));
        }
        PartedFellows x = Check.with("fellow 1 1 1 1 1 1 1;".repeat(6) + "glass 1 1;" + "glass 1 0;".repeat(7));
        check.same("all that part", 42, x.fits(0));
        check.same("the glass 0 joins", 1, x.fits(1));
        PartedFellows y = Check.with("fellow 0 0 0 0 0 0 0;fellow 2 0 0 0 0 0 0;glass 3 0;glass 5 0;");
        Check.book(y, "3 0;5 0;");
        check.same("who has nothing can't be parted: nothing lies there", 2, y.fits(0));
        check.same("the first", 0, y.fits(1));
        Check.book(y, "5 2;");
        check.same("the last pair", 1, y.fits(0));
        check.same("the last pair", 11, y.fits(1));
        Check.work(y, "part 1 0;");
        check.same("nobody can be parted", 0, y.fits(0));
        Check.book(y, "3 2;");
        check.same("all stays as it is: all pairs", 4, y.fits(0));
    }

    // "LOOK: the PLACE in no line by which, however much is there, fewest such pairs are left at the worst, of these the
    // first."
    private static void lookPlaces() {
        PartedFellows x = Check.with("fellow 1 0 0 0 0 0 0;glass 1 0;glass 2 0;glass 3 0;wall 10;");
        // place 1, 2 or 3 tells one pair from the other two, none tells all three
        check.same("the first of alike ones", 1, x.look(0));
        check.same("two are left at the worst", 2, x.look(1));
        Check.book(x, "1 0;");
        check.same("not the one in a line", 2, x.look(0));
        check.same("two fit, one is left", 1, x.look(1));
        Check.book(x, "1 1;");
        check.same("one fits: the first place in no line", 0, x.look(0));
        check.same("one is left", 1, x.look(1));
        Check.book(x, "0 0;");
        check.same("place 0 is in a line", 1, x.look(0));
        Check.book(x, "0 0;1 0;2 0;3 1;4 0;5 0;6 0;7 0;");
        check.same("the first behind all lines", 8, x.look(0));
        check.same("one fits", 1, x.look(1));
        Check.book(x, "0 9;1 0;2 0;3 0;4 0;5 0;6 0;8 0;");
        check.same("none fits: the first place in no line", 7, x.look(0));
        check.same("none is left", 0, x.look(1));
        Check.law(x, "10-bend");
        x.book(0);
        check.same("the last places", 7, x.look(0));
        Check.book(x, "7 0;");
        check.same("the last places", 8, x.look(0));
        Check.law(x, "8+bend");
        x.book(0);
        check.same("all come to the last place: none is told apart", 0, x.look(0));
        check.same("all are left", 3, x.look(1));
        Check.law(x, "bend*2+4");
        Check.book(x, "6 0;");
        check.same("the place 8 tells them apart", 8, x.look(0));
        Check.law(x, "(bend-1)*4");
        x.book(0);
        check.same("place 0, too", 0, x.look(0));
        PartedFellows last = Check.with("fellow 1 0 0 0 0 0 0;fellow 2 0 0 0 0 0 0;glass 9 0;wall 10;");
        check.same("by how much is there", 9, last.look(0));
        check.same("each is told apart", 1, last.look(1));
    }

    private static void lookPairs() {
        PartedFellows none = new PartedFellows();
        check.same("no pairs: the first place", 0, none.look(0));
        check.same("none is left", 0, none.look(1));
        Check.book(none, "0 0;1 0;3 0;");
        check.same("the first in no line", 2, none.look(0));
        PartedFellows x = Check.with("fellow 40 40 40 40 40 40 40;".repeat(6) + "glass 9 0;".repeat(8) + "wall 99;");
        Check.law(x, "98");
        Check.work(x, "part 0 0;part 1 0;part 2 0;part 3 0;part 4 0;part 5 0;");
        check.same("all that may lie anywhere lies there", 1680, x.place(98));
        check.same("nobody can be parted", 48, x.fits(0));
        check.same("no place tells anything", 0, x.look(0));
        check.same("all are left", 48, x.look(1));
        PartedFellows y = Check.with("fellow 1 0 0 0 0 0 0;fellow 0 0 0 0 0 0 0;glass 1 0;glass 2 0;");
        // the second one can't be parted: his two pairs are never told apart
        check.same("where", 1, y.look(0));
        check.same("three are left at the worst", 3, y.look(1));
        Check.book(y, "2 0;");
        check.same("where", 1, y.look(0));
        check.same("two are left at the worst", 2, y.look(1));
    }

    // "a set carries q, if it has q or more together. SWINGS of a PART: of all sets without it how many do not carry q,
    // but do with it."
    private static void swings() {
        PartedFellows x = Check.with("fellow 1 2 4 8 16 32 40;fellow 0 0 0 0 0 0 5;");
        check.same("q 1: the empty set alone", 1, x.swings(0, 0, 1));
        check.same("q 1: the empty set alone", 1, x.swings(0, 6, 1));
        check.same("all are needed", 1, x.swings(0, 0, 103));
        check.same("all are needed", 1, x.swings(0, 6, 103));
        check.same("no set carries", 0, x.swings(0, 6, 104));
        check.same("q 2: any other one carries it by itself", 0, x.swings(0, 0, 2));
        check.same("q 2: the empty set and that of the 1", 2, x.swings(0, 1, 2));
        check.same("q 40: the last by itself, and with all that have less together", 40, x.swings(0, 6, 40));
        check.same("alone: any set of the others, which have nothing", 64, x.swings(1, 6, 5));
        check.same("1 more than he has", 0, x.swings(1, 6, 6));
        check.same("those without votes", 0, x.swings(1, 0, 5));
        check.same("those without votes", 0, x.swings(1, 0, 1));
        check.same("2,800", 0, x.swings(0, 0, 2800));
        PartedFellows much = gathered();
        check.same("241 within him", 32, much.swings(0, 0, 241));
        check.same("240: one by itself", 64, much.swings(0, 0, 240));
        check.same("240: the other one is not needed", 0, much.swings(0, 6, 240));
        check.same("242", 0, much.swings(0, 0, 242));
    }

    // "POWER of a PART: of all 5,040 orders .. as a fraction in least terms"; "below (half 1; 1, if it is 0)"
    private static void power() {
        PartedFellows x = Check.with("fellow 1 1 1 1 1 1 1;fellow 0 0 0 0 0 0 5;fellow 3 1 1 1 0 0 0;fellow 0 0 0 0 0 0 0;");
        for (int q = 1; q <= 7; q++) {
            check.same("each of seven, q " + q, 1, x.power(0, q - 1, q, 0));
            check.same("each of seven, q " + q, 7, x.power(0, q - 1, q, 1));
        }
        check.same("nobody carries 8", 0, x.power(0, 0, 8, 0));
        check.same("nobody carries 8", 1, x.power(0, 0, 8, 1));
        check.same("alone: always", 1, x.power(1, 6, 5, 0));
        check.same("alone: always", 1, x.power(1, 6, 5, 1));
        check.same("never", 0, x.power(1, 0, 5, 0));
        check.same("never", 1, x.power(1, 0, 5, 1));
        check.same("never by 6", 0, x.power(1, 6, 6, 0));
        // of four: 3 carries q 4 if it comes second or third or last; first it has 3, with 1 ahead of it 4
        check.same("three quarters", 3, x.power(2, 0, 4, 0));
        check.same("three quarters", 4, x.power(2, 0, 4, 1));
        check.same("a twelfth each of the others", 1, x.power(2, 1, 4, 0));
        check.same("a twelfth each of the others", 12, x.power(2, 1, 4, 1));
        check.same("a part without votes", 0, x.power(2, 6, 4, 0));
        check.same("nothing within him", 0, x.power(3, 0, 1, 0));
        check.same("nothing within him", 1, x.power(3, 0, 1, 1));
        check.same("2,800", 0, x.power(0, 0, 2800, 0));
        PartedFellows steps = Check.with("fellow 1 2 4 8 16 32 40;");
        int above = 0;
        for (int part = 0; part < 7; part++) {
            above += steps.power(0, part, 50, 0) * (5040 / steps.power(0, part, 50, 1));
        }
        check.same("all together are 1", 5040, above);
    }

    // "GREEN by n, q: .. how likely it was green at least once", "in least terms"
    private static void green() {
        PartedFellows x = new PartedFellows();
        for (int q = 0; q <= 16; q++) {
            check.same("never looked", 0, x.green(0, q, 0));
            check.same("never looked", 1, x.green(0, q, 1));
        }
        for (int n = 0; n <= 12; n++) {
            check.same("never green", 0, x.green(n, 0, 0));
            check.same("never green", 1, x.green(n, 0, 1));
            check.same("always green", n == 0 ? 0 : 1, x.green(n, 16, 0));
            check.same("always green", 1, x.green(n, 16, 1));
            check.same("by half", (1L << n) - 1, x.green(n, 8, 0));
            check.same("by half", 1L << n, x.green(n, 8, 1));
            check.same("by one of 16", 1L << 4 * n, x.green(n, 1, 1));
        }
        check.same("1 of 16", 1, x.green(1, 1, 0));
        check.same("31 of 256", 31, x.green(2, 1, 0));
        check.same("15 of 16", 15, x.green(1, 15, 0));
        check.same("15 of 16", 16, x.green(1, 15, 1));
        check.same("twelve times 15 of 16", 281474976710655L, x.green(12, 15, 0));
        check.same("twelve times 15 of 16", 281474976710656L, x.green(12, 15, 1));
        check.same("twelve times 1 of 16", 151728638820031L, x.green(12, 1, 0));
        check.same("1 of 8", 1, x.green(1, 2, 0));
        check.same("1 of 8", 8, x.green(1, 2, 1));
    }

    // "RESTS: neither would have more by the other thing"; "0 without"
    private static void lookers() {
        PartedFellows x = new PartedFellows();
        int[][] due = {{0, 0, 4, 0, 0}, {1, 0, 3, 0, 0}, {0, 1, 3, 1, 1}, {1, 1, 2, 1, 2}, {99, 0, 3, 0, 0},
            {0, 99, 3, 1, 99}, {99, 99, 2, 1, 198}, {1, 99, 2, 1, 100}, {99, 1, 2, 1, 100}};
        for (int[] d : due) {
            for (int what = 0; what < 3; what++) {
                check.same("lookers(" + d[0] + ", " + d[1] + ", " + what + ")", d[2 + what], x.lookers(d[0], d[1], what));
            }
        }
    }

    // "no more than a bound, the greatest by which no more than n are given (all, if they are no more)"; "0, if he is none
    // of them"
    private static void light() {
        PartedFellows x = Check.with("fellow 3 0 0 0 0 0 0;fellow 5 0 0 0 0 0 0;fellow 0 0 0 0 0 0 0;fellow 40 40 40 40 40 40 40;");
        int[][] due = {{0, 0, 0}, {2, 0, 0}, {3, 1, 1}, {5, 1, 1}, {6, 2, 2}, {9, 3, 3}, {10, 3, 3}, {11, 3, 4}, {13, 3, 5}};
        for (int[] d : due) {
            check.same("the one who has 3, of " + d[0], d[1], x.light(0, 15, d[0]));
            check.same("the one who has 5, of " + d[0], d[2], x.light(1, 15, d[0]));
            check.same("the one who has nothing, of " + d[0], 0, x.light(2, 15, d[0]));
            check.same("the one who has 280, of " + d[0], d[2], x.light(3, 15, d[0]));
        }
        check.same("1 less than all", 279, x.light(3, 15, 287));
        check.same("all", 280, x.light(3, 15, 288));
        check.same("more than all", 280, x.light(3, 15, 289));
        check.same("2,800", 280, x.light(3, 15, 2800));
        check.same("alone", 4, x.light(1, 2, 4));
        check.same("alone, all", 5, x.light(1, 2, 5));
        check.same("alone, more than all", 5, x.light(1, 2, 2800));
        check.same("none of them", 0, x.light(3, 7, 2800));
        check.same("of no set", 0, x.light(3, 0, 2800));
        check.same("by nothing", 0, x.light(3, 8, 0));
        PartedFellows much = gathered();
        check.same("241", 241, much.light(0, 1, 241));
        check.same("240 of 241", 240, much.light(0, 1, 240));
        Check.work(much, "part 0 0;");
        check.same("what lies there is not within him", 0, much.light(0, 1, 2800));
    }

    private static void lightAlike() {
        PartedFellows x = Check.with("fellow 40 40 40 40 40 40 40;".repeat(6));
        check.same("1,680: all", 280, x.light(5, 63, 1680));
        check.same("1,679: 1 less each", 279, x.light(5, 63, 1679));
        check.same("1,674: just 279 each", 279, x.light(0, 63, 1674));
        check.same("1,673", 278, x.light(0, 63, 1673));
        check.same("6", 1, x.light(0, 63, 6));
        check.same("5", 0, x.light(0, 63, 5));
        check.same("two of them", 50, x.light(5, 33, 101));
        check.same("two of them", 50, x.light(0, 33, 100));
        check.same("two of them", 49, x.light(0, 33, 99));
    }

    // "The FELLOW within whom there is most (what 0), of alike ones the first, how much (1); NONE both: there are no
    // FELLOWS."
    private static void broadest() {
        PartedFellows none = Check.with("glass 1 0;");
        check.same("no fellows", -1, none.broadest(0));
        check.same("no fellows", -1, none.broadest(1));
        PartedFellows x = Check.with("fellow 0 0 0 0 0 0 0;fellow 1 0 0 0 0 0 2;fellow 0 0 0 3 0 0 0;fellow 0 0 0 0 0 0 2;glass 1 0;");
        check.same("of alike ones the first", 1, x.broadest(0));
        check.same("how much", 3, x.broadest(1));
        Check.work(x, "take 1 0 1;");
        check.same("1 less", 2, x.broadest(0));
        Check.work(x, "part 2 0;");
        check.same("of alike ones the first", 1, x.broadest(0));
        check.same("how much", 2, x.broadest(1));
        Check.work(x, "part 1 0;part 3 0;");
        check.same("nothing within any: the first", 0, x.broadest(0));
        check.same("nothing within any", 0, x.broadest(1));
        check.same("the last", 5, Check.with("fellow 1 1 1 1 1 1 1;".repeat(5) + "fellow 1 1 1 1 1 1 2;").broadest(0));
    }

    // "Of a FELLOW the PART of which most is within him (what 0), of alike ones the first, how much (1)."
    private static void strongest() {
        PartedFellows x = Check.with("fellow 0 2 1 2 0 0 2;fellow 0 0 0 0 0 0 1;fellow 0 0 0 0 0 0 0;glass 1 0;");
        check.same("of alike ones the first", 1, x.strongest(0, 0));
        check.same("how much", 2, x.strongest(0, 1));
        check.same("the last", 6, x.strongest(1, 0));
        check.same("1", 1, x.strongest(1, 1));
        check.same("nothing: the first", 0, x.strongest(2, 0));
        check.same("nothing", 0, x.strongest(2, 1));
        Check.work(x, "take 0 1 1;");
        check.same("1 less", 3, x.strongest(0, 0));
        Check.work(x, "part 0 0;");
        check.same("all lies on the wall: the first", 0, x.strongest(0, 0));
        check.same("all lies on the wall", 0, x.strongest(0, 1));
    }

    // "PARTS (bits) of a FELLOW that a join by a GLASS would put within him now (0: it would be REFUSED)."
    private static void joins() {
        PartedFellows x = Check.with("fellow 2 1 0 0 0 0 3;fellow 2 1 0 0 0 0 3;glass 1 0;glass 1 1;glass 2 1;");
        check.same("nothing lies there", 0, x.joins(0, 1));
        Check.work(x, "part 0 0;");
        check.same("the first and the last, too", 1 + 2 + 64, x.joins(0, 1));
        check.same("by a glass that parts", 0, x.joins(0, 0));
        check.same("by another glass: all lies elsewhere", 0, x.joins(0, 2));
        check.same("nothing of the other one lies there", 0, x.joins(1, 1));
        Check.work(x, "day;");
        check.same("1 has faded", 1 + 64, x.joins(0, 1));
        Check.law(x, "much");
        check.same("much is what lies there: 1 at 1; 2 lie at 7", 1, x.joins(0, 1));
        Check.law(x, "7");
        check.same("the last alone", 64, x.joins(0, 1));
        Check.law(x, "6");
        check.same("what lies elsewhere", 0, x.joins(0, 1));
        Check.law(x, "part+1");
        String seen = Sight.of(x);
        check.same("both", 1 + 64, x.joins(0, 1));
        check.alike("nothing stays changed", seen, Sight.of(x));
        check.same("it comes so", 1, Check.work(x, "join 0 1;"));
        check.same("1 and 2", 3, x.fellow(0, 0));
        check.same("nothing is left to join", 0, x.joins(0, 1));
    }

    // "GLASSES (bits) by which, were a FELLOW parted by one now, two of his PARTS or more would lie at one PLACE (those
    // alone that part; none, if nothing is within him)."
    private static void blurs() {
        PartedFellows x = Check.with("fellow 1 1 0 0 0 0 0;fellow 1 0 0 0 0 0 0;fellow 0 0 0 0 0 0 0;fellow 0 0 0 0 0 1 1;"
                + "glass 1 0;glass 1 1;glass 9 0;wall 10;");
        check.same("1 and 2 by the one, 9 and 9 by the other", 4, x.blurs(0));
        check.same("one part alone", 0, x.blurs(1));
        check.same("nothing within him", 0, x.blurs(2));
        check.same("the last two parts", 4, x.blurs(3));
        Check.law(x, "0");
        check.same("all that part", 1 + 4, x.blurs(0));
        check.same("one part alone", 0, x.blurs(1));
        check.same("nothing within him", 0, x.blurs(2));
        Check.work(x, "part 0 0;");
        check.same("two lie at one place, but nothing is within him", 0, x.blurs(0));
        check.same("another one's do not count", 0, x.blurs(1));
        PartedFellows eight = Check.with("fellow 1 1 0 0 0 0 0;" + "glass 9 0;".repeat(8) + "wall 10;");
        check.same("all eight", 255, eight.blurs(0));
        PartedFellows bare = Check.with("fellow 1 1 1 1 1 1 1;");
        check.same("no glasses", 0, bare.blurs(0));
        PartedFellows next = Check.with("fellow 0 0 0 0 0 0 1;fellow 1 0 0 0 0 0 0;glass 1 0;");
        Check.law(next, "7");
        Check.work(next, "part 1 0;");
        check.same("the next one's lies there", 0, next.blurs(0));
        Check.work(next, "part 0 0;");
        PartedFellows before = Check.with("fellow 0 0 0 0 0 0 1;fellow 1 0 0 0 0 0 0;glass 1 0;");
        Check.law(before, "7");
        Check.work(before, "part 0 0;");
        check.same("the one's ahead of him lies there", 0, before.blurs(1));
    }

    private static void blursByWhatLiesThere() {
        PartedFellows x = Check.with("fellow 1 2 3 0 0 0 0;glass 1 0;");
        Check.work(x, "take 0 2 3;part 0 0;give 0 2 3;");
        // at 1 lies 1, at 2 lie 2; within him are 3
        Check.law(x, "1");
        check.same("with the first", 1, x.blurs(0));
        Check.law(x, "2");
        check.same("with the second", 1, x.blurs(0));
        Check.law(x, "3");
        check.same("with none", 0, x.blurs(0));
        Check.work(x, "day;");
        Check.law(x, "1");
        check.same("what has faded does not count", 0, x.blurs(0));
        Check.law(x, "2");
        check.same("1 is left there", 1, x.blurs(0));
        PartedFellows y = Check.with("fellow 3 2 1 0 0 0 0;glass 1 0;");
        Check.work(y, "take 0 0 3;part 0 0;give 0 0 3;day;");
        Check.law(y, "3");
        check.same("what has faded does not count, whichever part", 0, y.blurs(0));
        Check.law(y, "2");
        check.same("1 is left there, whichever part", 1, y.blurs(0));
        PartedFellows z = Check.with("fellow 3 2 1 0 0 0 0;glass 1 0;");
        Check.law(z, "4");
        Check.work(z, "take 0 2 1;part 0 0;");
        Check.law(z, "9");
        check.same("nothing within him", 0, z.blurs(0));
        Check.work(z, "give 0 2 1;");
        check.same("two that stay at one place", 1, z.blurs(0));
        Check.work(z, "day;day;");
        check.same("one of them has faded", 0, z.blurs(0));
    }

    // "How many PLACES of the wall have anything."
    private static void lit() {
        PartedFellows x = Check.with("fellow 2 1 1 1 1 1 2;fellow 1 0 0 0 0 0 0;glass 1 0;wall 10;");
        check.same("none", 0, x.lit());
        Check.law(x, "part*3");
        Check.work(x, "part 0 0;");
        check.same("0, 3, 6 and 9", 4, x.lit());
        Check.work(x, "part 1 0;");
        check.same("two at one place", 4, x.lit());
        Check.work(x, "day;");
        check.same("the first and the last", 2, x.lit());
        Check.work(x, "day;");
        check.same("none", 0, x.lit());
        PartedFellows all = Check.with("fellow 9 9 9 9 9 9 9;fellow 9 9 9 9 9 9 9;glass 1 0;wall 10;");
        Check.law(all, "part+fellow*5");
        Check.work(all, "part 0 0;part 1 0;");
        check.same("all", 10, all.lit());
    }

    // "By how much less of a PART is within a FELLOW than of the PART of which most is."
    private static void lacks() {
        PartedFellows x = Check.with("fellow 40 0 1 2 3 4 39;fellow 0 0 0 0 0 0 0;fellow 1 1 1 1 1 1 2;");
        int[] due = {0, 40, 39, 38, 37, 36, 1};
        for (int part = 0; part < 7; part++) {
            check.same("lacks(0, " + part + ")", due[part], x.lacks(0, part));
            check.same("nothing within him", 0, x.lacks(1, part));
            check.same("the last has most", part == 6 ? 0 : 1, x.lacks(2, part));
        }
        check.same("240", 240, gathered().lacks(0, 1));
    }

    // "FELLOWS (bits), but himself, with each of whom a FELLOW is WHITE, as much as is within both together."
    private static void mates() {
        PartedFellows x = Check.with("fellow 1 1 1 1 1 1 1;fellow 2 2 2 2 2 2 2;fellow 3 0 0 0 0 0 0;fellow 0 3 3 3 3 3 3;"
                + "fellow 0 0 0 0 0 0 0;fellow 0 0 0 0 0 0 0;");
        check.same("white ones with white ones, and with those who have nothing", 2 + 16 + 32, x.mates(0));
        check.same("not himself", 1 + 16 + 32, x.mates(1));
        check.same("one for another one", 8, x.mates(2));
        check.same("one for another one", 4, x.mates(3));
        check.same("two who have nothing are not white", 1 + 2, x.mates(4));
        check.same("two who have nothing are not white", 1 + 2, x.mates(5));
        Check.work(x, "take 2 0 1;");
        check.same("1 less", 0, x.mates(2));
        check.same("alone", 0, Check.with("fellow 1 1 1 1 1 1 1;").mates(0));
    }

    // "The PART of a FELLOW that lies at the least PLACE of the wall, of alike ones the least PART; NONE: none of him lies
    // there."
    private static void first() {
        PartedFellows x = Check.with("fellow 1 2 3 0 0 0 1;fellow 1 0 0 0 0 0 0;glass 1 0;");
        check.same("none", -1, x.first(0));
        Check.law(x, "0");
        Check.work(x, "part 0 0;");
        check.same("of alike ones the least part, at place 0", 0, x.first(0));
        check.same("none of the other one", -1, x.first(1));
        Check.work(x, "day;");
        check.same("the first has faded", 1, x.first(0));
        Check.work(x, "day;");
        check.same("1 is left of the third", 2, x.first(0));
        Check.work(x, "day;");
        check.same("all has faded", -1, x.first(0));
        PartedFellows y = Check.with("fellow 1 1 1 1 1 1 1;glass 1 0;");
        Check.law(y, "59-part");
        Check.work(y, "part 0 0;");
        check.same("the last part, of which 1 lies there", 6, y.first(0));
    }

    // "How much of all lies at PLACES no more than n (0 to 99) from a PLACE (0 to W less 1), as far as the wall goes."
    private static void halo() {
        PartedFellows x = Check.with("fellow 1 2 4 8 16 32 40;fellow 0 0 0 1 0 0 0;glass 1 0;wall 99;");
        Check.law(x, "part*49/3");
        Check.work(x, "part 0 0;part 1 0;");
        // 0: 1, 16: 2, 32: 4, 49: 8 and 1, 65: 16, 81: 32, 98: 40
        check.same("at the first place", 1, x.halo(0, 0));
        check.same("15 from it", 1, x.halo(0, 15));
        check.same("16 from it", 3, x.halo(0, 16));
        check.same("97 from it", 64, x.halo(0, 97));
        check.same("98 from it", 104, x.halo(0, 98));
        check.same("99 from it", 104, x.halo(0, 99));
        check.same("at the last place", 40, x.halo(98, 0));
        check.same("16 from it", 40, x.halo(98, 16));
        check.same("17 from it", 72, x.halo(98, 17));
        check.same("97 from it", 103, x.halo(98, 97));
        check.same("98 from it", 104, x.halo(98, 98));
        check.same("99 from it", 104, x.halo(98, 99));
        check.same("on both sides", 9, x.halo(49, 15));
        check.same("on both sides", 9 + 16, x.halo(49, 16));
        check.same("on both sides", 9 + 16 + 4, x.halo(49, 17));
        check.same("beside it", 0, x.halo(48, 0));
        check.same("beside it", 9, x.halo(48, 1));
        check.same("beside it", 9, x.halo(50, 1));
        Check.work(x, "day;");
        check.same("what has faded is gone", 0, x.halo(0, 15));
        check.same("1 is left", 1, x.halo(0, 16));
    }
}
