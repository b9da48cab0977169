/** Promises 16 to 36: what is asked, nothing staying changed. */
public final class AskTest {
    private static final Check check = new Check("AskTest");
    private static final String THREE =
            "fellow 5 5 5 5 5 5 5;fellow 10 0 3 0 7 1 2;fellow 0 40 9 8 7 6 5;glass 2 0;glass 2 1;glass 5 0;wall 40;";

    public static void main(String[] args) {
        ahead();
        spread();
        bow();
        through();
        serves();
        fits();
        look();
        swingsAndPower();
        green();
        lookers();
        light();
        broadestAndStrongest();
        joins();
        blurs();
        litAndHalo();
        lacksAndMates();
        first();
        nothingStaysChanged();
        check.end();
    }

    private static void ahead() {
        PartedFellows x = Check.with(THREE);
        Check.work(x, "part 0 0;part 1 0;");
        for (int n = 0; n < 5; n++) {
            int due = 0;
            for (int much : new int[] {5, 5, 5, 5, 5, 5, 5, 10, 0, 3, 0, 7, 1, 2}) {
                due += Math.max(0, much - n);
            }
            check.same("ahead(" + n + ", 0)", due, x.ahead(n, 0));
        }
        check.same("both", 3, x.ahead(4, 1));
        check.same("one", 2, x.ahead(5, 1));
        check.same("one", 2, x.ahead(9, 1));
        check.same("none", 0, x.ahead(10, 1));
        check.same("the most days", 0, x.ahead(99, 0));
        check.same("the day stays", 0, x.told(3));
        PartedFellows red = Check.with("fellow 2 0 0 0 0 0 0;glass 1 0;");
        Check.work(red, "part 0 0;");
        check.same("red alone", 1, red.ahead(1, 0));
        check.same("red alone", 1, red.ahead(1, 1));
        check.same("red alone", 1, red.told(5));
        check.same("red is gone", 0, red.ahead(2, 1));
        check.illegal("ahead(100, 0)", x, () -> x.ahead(100, 0));
        check.illegal("ahead(-1, 0)", x, () -> x.ahead(-1, 0));
        check.illegal("ahead(0, 2)", x, () -> x.ahead(0, 2));
        check.illegal("ahead(0, -1)", x, () -> x.ahead(0, -1));
    }

    private static void spread() {
        PartedFellows x = Check.with(THREE);
        int[] due = {0, 0, 10, 10, 40, 40, 33, 33};
        for (int set = 0; set < 8; set++) {
            check.same("spread(" + set + ")", due[set], x.spread(set));
        }
        check.illegal("spread(8)", x, () -> x.spread(8));
        check.illegal("spread(-1)", x, () -> x.spread(-1));
        check.illegal("spread(64)", x, () -> x.spread(64));
        PartedFellows none = new PartedFellows();
        check.same("of none", 0, none.spread(0));
        check.illegal("spread(1) without fellows", none, () -> none.spread(1));
    }

    private static void bow() {
        PartedFellows x = Check.with(THREE);
        check.same("which", 3, x.bow(0));
        check.same("spread", 10, x.bow(1));
        PartedFellows alike = Check.with("fellow 1 1 1 1 1 1 1;fellow 1 1 1 1 1 1 1;fellow 2 2 2 2 2 2 2;");
        check.same("of alike ones most within", 7, alike.bow(0));
        PartedFellows least = Check.with("fellow 0 0 0 0 0 0 0;fellow 1 1 1 1 1 1 1;fellow 0 0 0 0 0 0 0;");
        check.same("of alike ones the least bits", 3, least.bow(0));
        check.same("spread", 0, least.bow(1));
        PartedFellows one = Check.with("fellow 1 1 1 1 1 1 1;");
        check.same("there are not two", -1, one.bow(0));
        check.same("there are not two", -1, one.bow(1));
        check.illegal("bow(2)", one, () -> one.bow(2));
        check.illegal("bow(-1)", one, () -> one.bow(-1));
    }

    private static void through() {
        PartedFellows x = Check.with(THREE);
        check.same("no glass", 0, x.through(0, 3, 0));
        check.same("one glass", 1, x.through(0, 0, 2));
        check.same("both", 5, x.through(0, 0, 7));
        check.same("the one that joins is none such", -1, x.through(0, 0, 4));
        check.same("none", -1, x.through(0, 0, 39));
        check.noSuch("through(3, 9, 99)", x, () -> x.through(3, 9, 99));
        check.illegal("part", x, () -> x.through(0, 7, 0));
        check.illegal("place", x, () -> x.through(0, 0, 40));
        check.illegal("place", x, () -> x.through(0, 0, -1));
        PartedFellows y = Check.with("fellow 4 0 0 0 0 0 0;glass 1 0;glass 2 0;glass 3 0;glass 3 0;");
        check.same("fewest first", 4, y.through(0, 0, 3));
        check.same("least bits of as few", 5, y.through(0, 0, 4));
        check.same("least bits of as few", 6, y.through(0, 0, 5));
        Check.law(y, "much*bend");
        check.same("much is what is within", 1, y.through(0, 0, 4));
        Check.law(y, "0");
        check.same("none is fewest", 0, y.through(0, 0, 0));
        Check.law(y, "99*99");
        check.same("each turn by itself ends with the wall", 1, y.through(0, 0, 59));
    }

    private static void serves() {
        PartedFellows x = Check.with(THREE);
        check.same("just as much", 1, x.serves(0, 10));
        check.same("as near as may be", 1, x.serves(0, 9));
        check.same("of alike ones the first, above as well as below", 0, x.serves(2, 4));
        check.same("far off", 2, x.serves(1, 400));
        check.same("none of it", 2, x.serves(0, 0));
        check.illegal("serves(7, 0)", x, () -> x.serves(7, 0));
        check.illegal("serves(-1, 0)", x, () -> x.serves(-1, 0));
        check.illegal("serves(0, 401)", x, () -> x.serves(0, 401));
        check.illegal("serves(0, -1)", x, () -> x.serves(0, -1));
        check.same("no fellows", -1, new PartedFellows().serves(0, 0));
    }

    private static void fits() {
        PartedFellows x = Check.with(THREE);
        check.same("without lines all pairs", 6, x.fits(0));
        check.same("the first", 0, x.fits(1));
        Check.book(x, "5 0;4 40;");
        check.same("the third by the first glass", 1, x.fits(0));
        check.same("which", 20, x.fits(1));
        Check.book(x, "2 5;10 5;");
        check.same("the first by the first glass", 1, x.fits(0));
        Check.book(x, "25 7;");
        check.same("25 7: by fellow, then glass", 12, x.fits(1));
        check.same("25 7", 2, x.fits(0));
        Check.book(x, "0 0;0 1;");
        check.same("two lines that can't both be right", 0, x.fits(0));
        check.same("no first", -1, x.fits(1));
        Check.book(x, "");
        Check.work(x, "part 1 0;");
        check.same("who can't be parted is in a pair, too", 6, x.fits(0));
        Check.book(x, "2 10;");
        check.same("all stays as it is", 5, x.fits(0));
        check.same("all stays as it is", 2, x.fits(1));
        check.illegal("fits(2)", x, () -> x.fits(2));
        check.illegal("fits(-1)", x, () -> x.fits(-1));
        check.same("no fellows", 0, new PartedFellows().fits(0));
    }

    private static void look() {
        PartedFellows x = Check.with(THREE);
        check.same("where", 10, x.look(0));
        check.same("how many are left", 2, x.look(1));
        Check.book(x, "10 5;");
        // left are 00 (place 10 has 5), 02 (5 too): 2 lies at 2, 5 at 5
        check.same("how many fit", 2, x.fits(0));
        check.same("the first place by which they part", 2, x.look(0));
        check.same("one is left", 1, x.look(1));
        Check.book(x, "0 9;");
        check.same("no pair is left: the first place in no line", 1, x.look(0));
        check.same("none is left", 0, x.look(1));
        Check.book(x, "0 9;1 9;2 9;3 9;4 9;5 9;6 9;7 9;");
        check.same("behind all lines", 8, x.look(0));
        check.illegal("look(2)", x, () -> x.look(2));
        check.illegal("look(-1)", x, () -> x.look(-1));
        PartedFellows one = Check.with("fellow 1 0 0 0 0 0 0;glass 1 0;");
        check.same("one pair stays one", 0, one.look(0));
        check.same("one pair stays one", 1, one.look(1));
        PartedFellows full = Check.with("fellow 40 40 40 40 40 40 40;".repeat(6) + "glass 9 0;".repeat(8) + "wall 99;");
        Check.law(full, "98");
        check.same("all pairs there may be", 48, full.fits(0));
        check.same("no place parts them", 0, full.look(0));
        check.same("all are left", 48, full.look(1));
        Check.work(full, "part 0 0;part 1 0;part 2 0;part 3 0;part 4 0;");
        check.same("the last place has all that there may be, by the last fellow", 98, full.look(0));
        check.same("those who can't be parted are left", 40, full.look(1));
    }

    private static void swingsAndPower() {
        PartedFellows x = Check.with(THREE);
        check.same("of seven alike, four needed", 20, x.swings(0, 0, 20));
        check.same("one of seven", 1, x.power(0, 6, 20, 0));
        check.same("one of seven", 7, x.power(0, 6, 20, 1));
        check.same("a part without votes", 0, x.swings(1, 1, 12));
        check.same("above is 0", 0, x.power(1, 1, 12, 0));
        check.same("below is 1", 1, x.power(1, 1, 12, 1));
        check.same("too much to carry", 0, x.swings(0, 0, 36));
        check.same("all are needed", 1, x.swings(0, 0, 35));
        check.same("any carries", 1, x.swings(0, 0, 1));
        PartedFellows y = Check.with("fellow 3 2 2 0 0 0 0;");
        // with q 4 any two of three carry: 2 of 3 orders of the three end it
        check.same("q 4", 32, y.swings(0, 0, 4));
        check.same("a third", 1, y.power(0, 0, 4, 0));
        check.same("a third", 3, y.power(0, 0, 4, 1));
        // with q 5: 3 with one of the others; 2 and 2 do not carry
        check.same("two thirds", 2, y.power(0, 0, 5, 0));
        check.same("two thirds", 3, y.power(0, 0, 5, 1));
        check.same("a sixth", 6, y.power(0, 1, 5, 1));
        check.noSuch("swings(3, 9, 0)", x, () -> x.swings(3, 9, 0));
        check.illegal("swings part", x, () -> x.swings(0, 7, 1));
        check.illegal("swings q", x, () -> x.swings(0, 0, 0));
        check.illegal("swings q", x, () -> x.swings(0, 0, 2801));
        check.same("q 2,800", 0, x.swings(0, 0, 2800));
        check.noSuch("power(-1, 9, 0, 9)", x, () -> x.power(-1, 9, 0, 9));
        check.illegal("power part", x, () -> x.power(0, -1, 1, 0));
        check.illegal("power q", x, () -> x.power(0, 0, 0, 0));
        check.illegal("power q", x, () -> x.power(0, 0, 2801, 0));
        check.illegal("power half", x, () -> x.power(0, 0, 1, 2));
        check.illegal("power half", x, () -> x.power(0, 0, 1, -1));
    }

    private static void green() {
        PartedFellows x = new PartedFellows();
        check.same("never looked", 0, x.green(0, 16, 0));
        check.same("never looked", 1, x.green(0, 16, 1));
        check.same("never green", 0, x.green(12, 0, 0));
        check.same("never green", 1, x.green(12, 0, 1));
        check.same("always green", 1, x.green(1, 16, 0));
        check.same("always green", 1, x.green(12, 16, 1));
        check.same("3 of 4", 3, x.green(2, 8, 0));
        check.same("3 of 4", 4, x.green(2, 8, 1));
        check.same("16^12", 281474976710656L, x.green(12, 1, 1));
        check.same("16^12 less 15^12", 281474976710656L - 129746337890625L, x.green(12, 1, 0));
        check.same("16 less 4 of 16", 3, x.green(1, 12, 0));
        check.same("16 less 4 of 16", 4, x.green(1, 12, 1));
        check.illegal("green(13, 0, 0)", x, () -> x.green(13, 0, 0));
        check.illegal("green(-1, 0, 0)", x, () -> x.green(-1, 0, 0));
        check.illegal("green(0, 17, 0)", x, () -> x.green(0, 17, 0));
        check.illegal("green(0, -1, 0)", x, () -> x.green(0, -1, 0));
        check.illegal("green(0, 0, 2)", x, () -> x.green(0, 0, 2));
        check.illegal("green(0, 0, -1)", x, () -> x.green(0, 0, -1));
    }

    private static void lookers() {
        PartedFellows x = new PartedFellows();
        int[][] due = {{5, 3, 2, 1, 8}, {0, 0, 4, 0, 0}, {5, 0, 3, 0, 0}, {0, 5, 3, 1, 5}, {99, 99, 2, 1, 198}};
        for (int[] d : due) {
            for (int what = 0; what < 3; what++) {
                check.same("lookers(" + d[0] + ", " + d[1] + ", " + what + ")", d[2 + what], x.lookers(d[0], d[1], what));
            }
        }
        check.illegal("v", x, () -> x.lookers(100, 0, 0));
        check.illegal("v", x, () -> x.lookers(-1, 0, 0));
        check.illegal("w", x, () -> x.lookers(0, 100, 0));
        check.illegal("w", x, () -> x.lookers(0, -1, 0));
        check.illegal("what", x, () -> x.lookers(0, 0, 3));
        check.illegal("what", x, () -> x.lookers(0, 0, -1));
    }

    private static void light() {
        PartedFellows x = Check.with(THREE);
        check.same("35 23 75 by 90: the bound is 33", 33, x.light(0, 7, 90));
        check.same("no more than that", 23, x.light(1, 7, 90));
        check.same("the bound", 33, x.light(2, 7, 90));
        check.same("89 is just enough for 33", 33, x.light(2, 7, 89));
        check.same("88 is too few for 33", 32, x.light(2, 7, 88));
        check.same("all", 75, x.light(2, 7, 133));
        check.same("more than all", 75, x.light(2, 7, 2800));
        check.same("one less than all", 74, x.light(2, 7, 132));
        check.same("nothing", 0, x.light(2, 7, 0));
        check.same("less than one each", 0, x.light(2, 7, 2));
        check.same("one each", 1, x.light(2, 7, 3));
        check.same("none of them", 0, x.light(2, 3, 90));
        check.same("alone", 35, x.light(0, 1, 2800));
        check.same("no set", 0, x.light(0, 0, 5));
        check.noSuch("light(3, 99, -1)", x, () -> x.light(3, 99, -1));
        check.illegal("bits of no fellows", x, () -> x.light(0, 8, 0));
        check.illegal("bits of no fellows", x, () -> x.light(0, -1, 0));
        check.illegal("n", x, () -> x.light(0, 1, 2801));
        check.illegal("n", x, () -> x.light(0, 1, -1));
    }

    private static void broadestAndStrongest() {
        PartedFellows x = Check.with(THREE);
        check.same("broadest", 2, x.broadest(0));
        check.same("broadest", 75, x.broadest(1));
        check.same("strongest", 1, x.strongest(2, 0));
        check.same("strongest", 40, x.strongest(2, 1));
        check.same("of alike ones the first", 0, x.strongest(0, 0));
        check.same("how much", 5, x.strongest(0, 1));
        PartedFellows y = Check.with("fellow 0 0 0 0 0 0 0;fellow 0 0 0 0 0 0 0;");
        check.same("of alike ones the first", 0, y.broadest(0));
        check.same("nothing", 0, y.broadest(1));
        check.same("nothing", 0, y.strongest(1, 1));
        PartedFellows none = new PartedFellows();
        check.same("no fellows", -1, none.broadest(0));
        check.same("no fellows", -1, none.broadest(1));
        check.illegal("broadest(2)", none, () -> none.broadest(2));
        check.illegal("broadest(-1)", none, () -> none.broadest(-1));
        check.noSuch("strongest(3, 9)", x, () -> x.strongest(3, 9));
        check.illegal("strongest(0, 2)", x, () -> x.strongest(0, 2));
        check.illegal("strongest(0, -1)", x, () -> x.strongest(0, -1));
    }

    private static void joins() {
        PartedFellows x = Check.with(THREE);
        check.same("nothing lies there", 0, x.joins(0, 1));
        Check.work(x, "part 0 0;part 1 2;");
        check.same("all", 127, x.joins(0, 1));
        check.same("a glass that parts", 0, x.joins(0, 0));
        check.same("what lies elsewhere", 0, x.joins(1, 1));
        Check.law(x, "10");
        check.same("what lies at 10: the part at 10 by 2, part 4", 16, x.joins(0, 1));
        Check.law(x, "much*2");
        check.same("much is what lies there", 16, x.joins(0, 1));
        check.noSuch("joins(3, 0)", x, () -> x.joins(3, 0));
        check.noSuch("joins(0, 3)", x, () -> x.joins(0, 3));
        check.noSuch("joins(-1, -1)", x, () -> x.joins(-1, -1));
    }

    private static void blurs() {
        PartedFellows x = Check.with("fellow 1 1 1 1 1 1 1;fellow 1 0 0 0 0 0 0;fellow 0 0 0 0 0 0 0;"
                + "glass 1 0;glass 9 0;glass 9 1;wall 50;");
        check.same("45 and 54 are at the end", 2, x.blurs(0));
        check.same("one part alone", 0, x.blurs(1));
        check.same("nothing within", 0, x.blurs(2));
        Check.work(x, "take 0 6 1;part 0 1;give 0 6 1;");
        // on the wall: 9 18 27 36 45 and 49; within: part 6, which by glass 0 comes to 7, by glass 1 to 49
        check.same("with one that lies there", 2, x.blurs(0));
        Check.law(x, "36");
        check.same("with one that lies there", 3, x.blurs(0));
        Check.law(x, "48");
        check.same("alone", 0, x.blurs(0));
        Check.work(x, "part 0 0;");
        check.same("nothing within", 0, x.blurs(0));
        check.noSuch("blurs(3)", x, () -> x.blurs(3));
        check.noSuch("blurs(-1)", x, () -> x.blurs(-1));
        PartedFellows y = Check.with("fellow 1 1 1 0 0 0 0;glass 1 0;");
        Check.law(y, "7");
        Check.work(y, "take 0 2 1;part 0 0;give 0 2 1;");
        Check.law(y, "8");
        check.same("two that lie at one place already", 1, y.blurs(0));
    }

    private static void litAndHalo() {
        PartedFellows x = Check.with(THREE);
        check.same("dark wall", 0, x.lit());
        Check.work(x, "part 0 0;part 1 2;");
        // 2 4 6 8 10 12 14 with 5 each; 5 (10), 15 (3), 25 (7), 30 (1), 35 (2)
        check.same("lit", 12, x.lit());
        check.same("halo of 0", 10, x.halo(5, 0));
        check.same("halo of 1", 20, x.halo(5, 1));
        check.same("as far as the wall goes", 58, x.halo(0, 99));
        check.same("as far as the wall goes", 58, x.halo(39, 99));
        check.same("at the end", 2, x.halo(39, 4));
        check.same("at the end", 3, x.halo(39, 9));
        Check.work(x, "day;");
        check.same("one is gone", 11, x.lit());
        check.illegal("halo(40, 0)", x, () -> x.halo(40, 0));
        check.illegal("halo(-1, 0)", x, () -> x.halo(-1, 0));
        check.illegal("halo(0, 100)", x, () -> x.halo(0, 100));
        check.illegal("halo(0, -1)", x, () -> x.halo(0, -1));
    }

    private static void lacksAndMates() {
        PartedFellows x = Check.with("fellow 1 2 3 4 5 6 7;fellow 6 5 4 3 2 1 0;fellow 7 6 5 4 3 2 1;"
                + "fellow 2 2 2 2 2 2 2;fellow 0 0 0 0 0 0 0;fellow 0 0 0 0 0 0 0;");
        check.same("lacks", 6, x.lacks(0, 0));
        check.same("lacks none", 0, x.lacks(0, 6));
        check.same("lacks", 3, x.lacks(1, 3));
        check.same("mates", 6, x.mates(0));
        check.same("mates", 1, x.mates(1));
        check.same("with those who have nothing", 48, x.mates(3));
        check.same("two who have nothing are none", 8, x.mates(4));
        check.noSuch("lacks(6, 9)", x, () -> x.lacks(6, 9));
        check.illegal("lacks(0, 7)", x, () -> x.lacks(0, 7));
        check.illegal("lacks(0, -1)", x, () -> x.lacks(0, -1));
        check.noSuch("mates(6)", x, () -> x.mates(6));
        check.noSuch("mates(-1)", x, () -> x.mates(-1));
    }

    private static void first() {
        PartedFellows x = Check.with(THREE);
        check.same("none lies there", -1, x.first(0));
        Check.work(x, "part 0 0;");
        check.same("red", 0, x.first(0));
        Check.law(x, "20-part");
        Check.work(x, "part 1 0;");
        check.same("violet", 6, x.first(1));
        Check.law(x, "most[20-part*5,5]");
        Check.work(x, "part 2 0;");
        check.same("of alike ones the least part", 3, x.first(2));
        check.noSuch("first(3)", x, () -> x.first(3));
        check.noSuch("first(-1)", x, () -> x.first(-1));
    }

    private static void nothingStaysChanged() {
        PartedFellows x = Check.with(THREE);
        Check.work(x, "part 0 0;take 2 1 3;day;");
        Check.book(x, "3 4;");
        long before = sight(x);
        x.ahead(50, 0);
        x.fits(0);
        x.look(0);
        x.joins(0, 1);
        x.blurs(2);
        x.through(2, 1, 4);
        x.term(5, 16, 48, 0);
        x.span(5, 10, 16, 48, 2, 0);
        x.would(1, 1, 1, 1, 1, 1, 1, 1);
        x.light(2, 7, 50);
        check.same("all is as it was", before, sight(x));
    }

    private static long sight(PartedFellows x) {
        long all = 7;
        for (int what = 0; what <= 11; what++) {
            all = all * 31 + x.told(what);
        }
        for (int f = 0; f < 3; f++) {
            for (int p = 0; p < 7; p++) {
                for (int what = 0; what < 4; what++) {
                    all = all * 31 + x.part(f, p, what);
                }
            }
            all = all * 31 + x.fellow(f, 5);
        }
        return all;
    }
}
