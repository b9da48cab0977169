/** The boundaries that the part headed 2. and promises 8 to 14 name for steps and for what they leave. */
public final class StepEdgeTest {
    private static final Check check = new Check("StepEdgeTest");
    private static final String TWO = "fellow 3 0 5 0 0 0 1;fellow 3 2 0 0 0 0 0;glass 1 0;glass 1 1;glass 4 0;glass 4 1;wall 20;";

    public static void main(String[] args) {
        atFirst();
        partRefused();
        partDone();
        partTurns();
        joinRefused();
        joinDone();
        joinTurns();
        take();
        give();
        swap();
        fading();
        lastDay();
        twoHundredSteps();
        twoHundredAgains();
        refusedCount();
        undo();
        dark();
        white();
        onePlace();
        placesOfFellows();
        lastOnes();
        check.end();
    }

    private static PartedFellows with(String college, String law, String work) {
        PartedFellows x = Check.with(college);
        if (!law.isEmpty()) {
            check.same("law " + law, 1, Check.law(x, law));
        }
        if (!work.isEmpty()) {
            Check.work(x, work);
            check.same("work " + work + ": refused", 0, x.told(10));
            check.same("work " + work + ": fault", -1, x.fault());
        }
        return x;
    }

    /** The step is REFUSED: it is counted as such, and changes nothing. */
    private static void refused(String what, PartedFellows x, String step) {
        String before = Sight.ofHall(x);
        int works = x.count(2);
        check.same(what + ": " + step + " is refused", 0, Check.work(x, step));
        check.same(what + ": " + step + ": told(10)", 1, x.told(10));
        check.same(what + ": " + step + ": the work is there", works + 1, x.count(2));
        check.alike(what + ": " + step + " changes nothing", before, Sight.ofHall(x));
    }

    private static void done(String what, PartedFellows x, String step) {
        check.same(what + ": " + step + " is done", 1, Check.work(x, step));
        check.same(what + ": " + step + ": told(10)", 0, x.told(10));
    }

    private static void parts(String what, PartedFellows x, int fellow, int which, int... due) {
        for (int part = 0; part < due.length; part++) {
            check.same(what + ": part(" + fellow + ", " + part + ", " + which + ")", due[part], x.part(fellow, part, which));
        }
    }

    // "It is DAY 0 at first, all PARTS are within their FELLOWS, nothing lies on the wall, nothing is taken, nobody was
    // parted."
    private static void atFirst() {
        PartedFellows x = Check.with(TWO);
        int[] told = {2, 4, 20, 0, 0, 0, 14, 0, 0, 0, 0, 0};
        for (int what = 0; what < told.length; what++) {
            check.same("told(" + what + ")", told[what], x.told(what));
        }
        parts("at first", x, 0, 0, 3, 0, 5, 0, 0, 0, 1);
        parts("at first", x, 0, 1, 0, 0, 0, 0, 0, 0, 0);
        parts("at first", x, 0, 2, -1, -1, -1, -1, -1, -1, -1);
        parts("at first", x, 1, 3, 0, 0, 0, 0, 0, 0, 0);
        check.same("place 0, where nothing lies", 0, x.place(0));
        check.same("no place is lit", 0, x.lit());
    }

    // "REFUSED, if G joins, or nothing is within him"
    private static void partRefused() {
        refused("G joins", with(TWO, "", ""), "part 0 1;");
        refused("G joins, while it lies there", with(TWO, "", "part 0 0;"), "part 0 1;");
        refused("all lies on the wall", with(TWO, "", "part 0 0;"), "part 0 0;");
        refused("all lies on the wall, by another glass", with(TWO, "", "part 0 0;"), "part 0 2;");
        refused("all is taken", with(TWO, "", "take 0 0 3;take 0 2 5;take 0 6 1;"), "part 0 0;");
        refused("there never was any", with("fellow 0 0 0 0 0 0 0;glass 1 0;", "", ""), "part 0 0;");
        refused("all has faded", with(TWO, "", "part 1 0;day;day;day;"), "part 1 0;");
        done("1 of one part", with(TWO, "", "take 0 0 3;take 0 2 5;"), "part 0 0;");
        done("1 that was given back", with(TWO, "", "take 0 2 1;part 0 0;give 0 2 1;"), "part 0 0;");
        done("1 by another one's", with("fellow 0 0 0 0 0 0 0;fellow 1 0 0 0 0 0 0;glass 1 0;", "", "swap 0 1 0;"), "part 0 0;");
    }

    // "each PART of F of which there is any within him lies at the PLACE that is its TURN .. what lay of that PART on
    // the wall already goes to that PLACE, too .. none of it is within him any more; other PARTS stay where they are; he
    // was parted once more"
    private static void partDone() {
        PartedFellows x = with(TWO, "", "take 0 2 2;part 0 0;give 0 2 2;");
        parts("ahead", x, 0, 1, 3, 0, 3, 0, 0, 0, 1);
        parts("ahead", x, 0, 2, 1, -1, 3, -1, -1, -1, 7);
        done("the rest of one part", x, "part 0 2;");
        parts("none is within him", x, 0, 0, 0, 0, 0, 0, 0, 0, 0);
        parts("it lies together", x, 0, 1, 3, 0, 5, 0, 0, 0, 1);
        parts("others stay", x, 0, 2, 1, -1, 12, -1, -1, -1, 7);
        check.same("none is left where it lay", 0, x.place(3));
        check.same("all of it", 5, x.place(12));
        check.same("parted twice", 2, x.fellow(0, 5));
        check.same("the other one was not", 0, x.fellow(1, 5));
        check.same("in all", 2, x.told(11));
        parts("another fellow's stay", x, 1, 0, 3, 2, 0, 0, 0, 0, 0);
        done("the other one", x, "part 1 0;");
        check.same("two at one place", 6, x.place(1));
        check.same("in all", 3, x.told(11));
    }

    // "much: what is within him; all TURNS as they are ahead of it"
    private static void partTurns() {
        parts("much", with(TWO, "much", "part 0 0;"), 0, 2, 3, -1, 5, -1, -1, -1, 1);
        parts("much is what is within him, not what lies there", with(TWO, "much", "take 0 2 2;part 0 0;give 0 2 2;part 0 0;"),
                0, 2, 3, -1, 2, -1, -1, -1, 1);
        parts("all", with(TWO, "all", "part 0 0;"), 0, 2, 9, -1, 9, -1, -1, -1, 9);
        parts("turns", with(TWO, "turns", "part 0 0;"), 0, 2, 0, -1, 0, -1, -1, -1, 0);
        parts("turns", with(TWO, "turns", "take 0 2 1;part 0 0;give 0 2 1;part 0 0;"), 0, 2, 0, -1, 1, -1, -1, -1, 0);
        parts("taken, of that part", with(TWO, "taken", "take 0 2 2;part 0 0;"), 0, 2, 0, -1, 2, -1, -1, -1, 0);
        parts("day", with(TWO, "day", "day;day;part 0 0;"), 0, 2, 2, -1, 2, -1, -1, -1, 2);
        parts("fellow", with(TWO, "fellow+4", "part 1 0;"), 1, 2, 5, 5, -1, -1, -1, -1, -1);
        parts("bend", with(TWO, "bend", "part 1 2;"), 1, 2, 4, 4, -1, -1, -1, -1, -1);
        parts("part", with(TWO, "part", "part 0 2;"), 0, 2, 0, -1, 2, -1, -1, -1, 6);
    }

    // "REFUSED, if G parts, or there is none such"
    private static void joinRefused() {
        refused("G parts", with(TWO, "", "part 0 0;"), "join 0 0;");
        refused("nothing lies there", with(TWO, "", ""), "join 0 1;");
        refused("all lies elsewhere", with(TWO, "", "part 0 0;"), "join 0 3;");
        refused("another one's lies there", with(TWO, "", "part 1 0;"), "join 0 1;");
        refused("all that lay there has faded", with(TWO, "", "part 1 0;day;day;day;"), "join 1 1;");
        refused("it is within him already", with(TWO, "", "part 0 0;join 0 1;"), "join 0 1;");
        PartedFellows x = with(TWO, "0", "");
        refused("nothing lies at place 0", x, "join 0 1;");
    }

    // "each PART of F that lies at the PLACE that is its TURN by G .. is within him again, none of it lies on the wall"
    private static void joinDone() {
        PartedFellows x = with(TWO, "", "part 0 0;");
        Check.law(x, "least[(part+1)*bend,6]");
        done("two of three", x, "join 0 1;");
        parts("what lies elsewhere is missed", x, 0, 0, 3, 0, 5, 0, 0, 0, 0);
        parts("what lies elsewhere is missed", x, 0, 1, 0, 0, 0, 0, 0, 0, 1);
        parts("where", x, 0, 2, -1, -1, -1, -1, -1, -1, 7);
        check.same("he was not parted once more", 1, x.fellow(0, 5));
        PartedFellows y = with(TWO, "", "take 0 2 2;part 0 0;give 0 2 2;");
        done("with what is within him", y, "join 0 1;");
        parts("together", y, 0, 0, 3, 0, 5, 0, 0, 0, 1);
        PartedFellows z = with(TWO, "", "part 1 0;day;day;");
        done("1 is left", z, "join 1 1;");
        parts("1 is left", z, 1, 0, 1, 0, 0, 0, 0, 0, 0);
    }

    // "much: what lies there; all TURNS as they are ahead of it"
    private static void joinTurns() {
        String joined = "fellow 2 3 0 0 0 0 0;glass 1 0;glass 1 1;wall 30;";
        PartedFellows x = with(joined, "much", "part 0 0;");
        done("much is what lies there", x, "join 0 1;");
        check.same("both", 5, x.fellow(0, 0));
        PartedFellows y = with(joined, "much", "part 0 0;day;");
        refused("1 less lies there", y, "join 0 1;");
        PartedFellows z = with(joined, "all", "part 0 0;");
        refused("all is 0 by then", z, "join 0 1;");
        Check.law(z, "5+all");
        done("all is 0 ahead of it, for both", z, "join 0 1;");
        check.same("both", 5, z.fellow(0, 0));
        PartedFellows w = with(joined, "turns", "part 0 0;");
        refused("turns is 1 by then", w, "join 0 1;");
        Check.law(w, "turns-1");
        done("turns is 1", w, "join 0 1;");
        PartedFellows v = with(joined, "taken", "take 0 1 1;part 0 0;");
        done("taken is as it was", v, "join 0 1;");
        check.same("both", 4, v.fellow(0, 0));
    }

    // "take: N less of C is within F, N more of it is taken (REFUSED, if less than N is within him)"
    private static void take() {
        refused("one more than is within him", with(TWO, "", ""), "take 0 2 6;");
        refused("nothing is within him", with(TWO, "", ""), "take 0 1 1;");
        refused("it lies on the wall", with(TWO, "", "part 0 0;"), "take 0 0 1;");
        refused("another part's does not count", with(TWO, "", ""), "take 0 0 4;");
        PartedFellows x = with(TWO, "", "");
        done("all of it", x, "take 0 2 5;");
        parts("within", x, 0, 0, 3, 0, 0, 0, 0, 0, 1);
        parts("taken", x, 0, 3, 0, 0, 5, 0, 0, 0, 0);
        refused("it is taken", x, "take 0 2 1;");
        done("all but 1", x, "take 0 0 2;");
        done("the last one", x, "take 0 0 1;");
        check.same("in all", 8, x.told(8));
        check.same("of him", 8, x.fellow(0, 2));
        check.same("of the other one", 0, x.fellow(1, 2));
        done("40", Check.with("fellow 40 0 0 0 0 0 0;"), "take 0 0 40;");
        refused("39", Check.with("fellow 39 0 0 0 0 0 0;"), "take 0 0 40;");
    }

    // "give: the other way round (REFUSED, if less than N is taken)"
    private static void give() {
        refused("nothing is taken", with(TWO, "", ""), "give 0 0 1;");
        refused("one more than is taken", with(TWO, "", "take 0 2 4;"), "give 0 2 5;");
        refused("taken of another part", with(TWO, "", "take 0 2 4;"), "give 0 0 1;");
        refused("taken of another fellow", with(TWO, "", "take 0 0 2;"), "give 1 0 1;");
        PartedFellows x = with(TWO, "", "take 0 2 4;part 0 0;");
        done("all of it", x, "give 0 2 4;");
        parts("within", x, 0, 0, 0, 0, 4, 0, 0, 0, 0);
        parts("on the wall", x, 0, 1, 3, 0, 1, 0, 0, 0, 1);
        parts("taken", x, 0, 3, 0, 0, 0, 0, 0, 0, 0);
        refused("it is given", x, "give 0 2 1;");
        PartedFellows y = with("fellow 40 0 0 0 0 0 0;fellow 40 0 0 0 0 0 0;", "", "take 0 0 40;swap 0 1 0;give 0 0 40;");
        check.same("more than 40 may be within him", 80, y.part(0, 0, 0));
        check.same("none in the other one", 0, y.part(1, 0, 0));
        done("40 of 80", y, "take 0 0 40;");
        done("40 of 40", y, "take 0 0 40;");
        check.same("80 are taken", 80, y.part(0, 0, 3));
    }

    // "swap: .. what is within the one of C is within the other one, and the other way round (REFUSED, if both are one,
    // or have as much of it)"
    private static void swap() {
        refused("both are one", with(TWO, "", ""), "swap 0 0 2;");
        refused("both are one", with(TWO, "", ""), "swap 1 1 0;");
        refused("as much", with(TWO, "", ""), "swap 0 1 0;");
        refused("both have none", with(TWO, "", ""), "swap 0 1 3;");
        refused("both have none within, though much lies there", with(TWO, "", "part 0 0;part 1 0;"), "swap 0 1 2;");
        PartedFellows x = with(TWO, "", "take 0 0 1;take 0 2 1;");
        done("1 more", x, "swap 0 1 0;");
        check.same("the one", 3, x.part(0, 0, 0));
        check.same("the other one", 2, x.part(1, 0, 0));
        check.same("taken stays", 1, x.part(0, 0, 3));
        check.same("taken stays", 0, x.part(1, 0, 3));
        done("all for none", x, "swap 1 0 2;");
        check.same("the one", 0, x.part(0, 2, 0));
        check.same("the other one", 4, x.part(1, 2, 0));
        PartedFellows y = with(TWO, "", "part 0 0;");
        done("what lies there stays", y, "swap 0 1 0;");
        check.same("the one", 3, y.part(0, 0, 0));
        check.same("the one's on the wall", 3, y.part(0, 0, 1));
        check.same("the other one", 0, y.part(1, 0, 0));
        check.same("the other one's on the wall", 0, y.part(1, 0, 1));
    }

    // "day ..: of each PART of each FELLOW on the wall there is 1 less (it is gone for good); the DAY is one more"
    private static void fading() {
        done("nothing lies there", with(TWO, "", ""), "day;");
        done("nobody is there", new PartedFellows(), "day;");
        PartedFellows x = with(TWO, "", "take 0 2 1;part 0 0;give 0 2 1;part 1 0;day;");
        parts("1 less", x, 0, 1, 2, 0, 3, 0, 0, 0, 0);
        parts("1 less of the other one's", x, 1, 1, 2, 1, 0, 0, 0, 0, 0);
        parts("within stays", x, 0, 0, 0, 0, 1, 0, 0, 0, 0);
        parts("gone: at no place", x, 0, 2, 1, -1, 3, -1, -1, -1, -1);
        parts("nothing is taken by it", x, 0, 3, 0, 0, 0, 0, 0, 0, 0);
        check.same("the day", 1, x.told(3));
        Check.work(x, "day;day;day;day;");
        check.same("no less than none", 0, x.told(7));
        check.same("within stays", 1, x.told(6));
        check.same("nobody", 0, x.told(5));
        refused("gone for good", x, "join 0 1;");
        refused("gone for good", x, "give 0 0 1;");
    }

    // "day (REFUSED from DAY 400 on)"
    private static void lastDay() {
        PartedFellows x = with("fellow 40 40 0 0 0 0 0;glass 1 0;glass 1 1;", "", "");
        Check.work(x, "again 40[day;day;day;day;];again 38[day;];");
        Check.work(x, "again 40[day;day;day;day;];again 38[day;];");
        check.same("396", 396, x.told(3));
        Check.work(x, "day;day;part 0 0;day;");
        check.same("399", 399, x.told(3));
        check.same("39 of each", 78, x.told(7));
        done("the 400th", x, "day;");
        check.same("400", 400, x.told(3));
        check.same("38 of each", 76, x.told(7));
        refused("from 400 on", x, "day;");
        refused("from 400 on", x, "day;");
        done("other steps are done", x, "join 0 1;");
        check.same("the join is undone", 6, x.undo());
        check.same("a day that was refused is undone", 5, x.undo());
        check.same("400", 400, x.told(3));
        check.same("the other one, too", 4, x.undo());
        check.same("400", 400, x.told(3));
        check.same("the 400th day is undone", 3, x.undo());
        check.same("399", 399, x.told(3));
        done("the 400th again", x, "day;");
    }

    // "200 STEPS at most are begun by one WORK (an again, too, each time it is come to; REFUSED ones, too), what would
    // come behind is left out"
    private static void twoHundredSteps() {
        String begun161 = "again 40[day;day;day;day;];";
        String[] begun = {"again 36[day;];", "again 37[day;];", "again 38[day;];", "again 39[day;];"};
        int[] done = {197, 198, 198, 198};
        int[] taken = {1, 1, 0, 0};
        for (int i = 0; i < 4; i++) {
            PartedFellows x = with(TWO, "", "");
            check.same(begun[i], done[i], Check.work(x, begun161 + begun[i] + "take 0 2 1;"));
            check.same(begun[i] + ": the 200th is done, the 201st is left out", taken[i], x.told(8));
            check.same(begun[i] + ": left out is not refused", 0, x.told(10));
            check.same(begun[i] + ": each work begins anew", 1, Check.work(x, "take 0 2 1;"));
        }
        PartedFellows x = with(TWO, "", "");
        check.same("refused ones are begun, too", 0,
                Check.work(x, "again 40[give 0 0 1;give 0 0 1;give 0 0 1;give 0 0 1;];again 38[give 0 0 1;];day;"));
        check.same("198 were refused", 198, x.told(10));
        check.same("the day was left out", 0, x.told(3));
        PartedFellows y = with(TWO, "", "");
        check.same("one step less", 1,
                Check.work(y, "again 40[give 0 0 1;give 0 0 1;give 0 0 1;give 0 0 1;];again 37[give 0 0 1;];day;"));
        check.same("197 were refused", 197, y.told(10));
        check.same("the day was done", 1, y.told(3));
    }

    private static void twoHundredAgains() {
        String begun199 = "again 40[day;day;day;day;];again 37[day;];";
        PartedFellows x = with(TWO, "", "");
        check.same("the 200th is an again: what is in it is left out", 197, Check.work(x, begun199 + "again 9[take 0 2 1;];"));
        check.same("nothing was taken", 0, x.told(8));
        PartedFellows y = with(TWO, "", "");
        check.same("an again of 0 is begun, too", 197, Check.work(y, begun199 + "again 0[];take 0 2 1;"));
        check.same("nothing was taken", 0, y.told(8));
        // 1 and 40 times (an again, and what is in it 3 times, and a day): 1 + 40 * (1 + 3 + 1) = 201
        PartedFellows z = with(TWO, "", "");
        check.same("agains each time they are come to", 119 + 40, Check.work(z, "again 40[again 3[day;];day;];"));
        check.same("the last day is left out", 159, z.told(3));
        PartedFellows w = with(TWO, "", "");
        check.same("39 times, then three steps", 156 + 3, Check.work(w, "again 39[again 3[day;];day;];take 0 2 1;day;day;"));
        // 1 + 39 * 5 = 196, and three more are 199
        check.same("all were done", 1, w.told(8));
        PartedFellows v = with(TWO, "", "");
        check.same("a row ends in the midst of an again's", 199, Check.work(v, "again 40[day;day;day;day;day;];take 0 2 1;"));
        check.same("nothing was taken", 0, v.told(8));
        PartedFellows u = with(TWO, "", "");
        check.same("an again without steps is one step", 198,
                Check.work(u, "again 40[];again 39[day;day;day;day;day;];day;day;day;take 0 2 1;"));
        // 1 + 1 + 195 = 197, and three days more
        check.same("nothing was taken", 0, u.told(8));
        PartedFellows t = with(TWO, "", "");
        check.same("agains alone use all up", 0, Check.work(t, "again 40[again 40[];again 0[];again 1[];again 2[];again 9[];];day;"));
        check.same("no day", 0, t.told(3));
        PartedFellows s = with(TWO, "", "");
        check.same("agains that leave one step", 1, Check.work(s, "again 39[again 40[];again 0[];again 1[];again 2[];again 9[];];day;"));
    }

    // "10 STEPS REFUSED by the latest WORK (0 ahead of any, behind undo(), restore())"
    private static void refusedCount() {
        PartedFellows x = Check.with(TWO);
        check.same("ahead of any", 0, x.told(10));
        check.same("undo", -1, x.undo());
        check.same("restore", -1, x.restore());
        Check.work(x, "give 0 0 1;again 3[give 0 0 1;];day;");
        check.same("agains are none", 4, x.told(10));
        x.image();
        check.same("an image leaves it", 4, x.told(10));
        Check.work(x, "part 9 9;");
        check.same("a fault leaves it", 4, x.told(10));
        Check.law(x, "5");
        Check.book(x, "1 1;");
        check.same("other texts leave it", 4, x.told(10));
        Check.work(x, "give 0 0 1;");
        check.same("the latest", 1, x.told(10));
        Check.work(x, "day;");
        check.same("none by the latest", 0, x.told(10));
        Check.work(x, "give 0 0 1;give 0 0 1;");
        check.same("two by the latest", 2, x.told(10));
        check.same("undo", 3, x.undo());
        check.same("0 behind undo()", 0, x.told(10));
        Check.work(x, "give 0 0 1;");
        check.same("one by the latest", 1, x.told(10));
        check.same("restore", 0, x.restore());
        check.same("0 behind restore()", 0, x.told(10));
        Check.work(x, "give 0 0 1;");
        x.work(0);
        check.same("0 by a work without steps", 0, x.told(10));
        Check.work(x, "give 0 0 1;");
        Check.college(x, TWO);
        check.same("ahead of any", 0, x.told(10));
    }

    // "The latest WORK that was done is undone: how many are left; -1: there is none."
    private static void undo() {
        String[] works = {"part 0 0;", "day;", "take 1 0 2;", "swap 0 1 1;", "join 0 1;", "give 1 0 1;", "give 1 0 9;", "",
            "part 0 2;part 1 2;", "day;day;", "again 3[day;];", "take 0 0 1;", "day;", "day;", "swap 0 1 2;", "day;"};
        String[] seen = new String[16];
        for (int i = 0; i < 16; i++) {
            seen[i] = Sight.ofHall(again(works, i));
        }
        for (int i = 15; i >= 0; i--) {
            PartedFellows y = again(works, 16);
            for (int left = 15; left > i; left--) {
                y.undo();
            }
            check.same("how many are left", i, y.undo());
            check.alike("as ahead of work " + i, seen[i], Sight.ofHall(y));
            check.same("works", i, y.count(2));
        }
        PartedFellows z = again(works, 1);
        check.same("undo", 0, z.undo());
        check.same("there is none", -1, z.undo());
        check.same("there is none", -1, z.undo());
        check.alike("nothing changes", Sight.of(Check.with(TWO)), Sight.of(z));
    }

    /** A new object with so many of the works. */
    private static PartedFellows again(String[] works, int many) {
        PartedFellows x = Check.with(TWO);
        for (int i = 0; i < many; i++) {
            Check.work(x, works[i]);
        }
        return x;
    }

    // "DARK: a PART of which none is within a FELLOW, and none lies on the wall."
    private static void dark() {
        PartedFellows x = Check.with(TWO);
        check.same("of which there never was any", 2 + 8 + 16 + 32, x.fellow(0, 3));
        Check.work(x, "take 0 0 3;");
        check.same("all is taken", 1 + 58, x.fellow(0, 3));
        Check.work(x, "part 0 0;");
        check.same("what lies on the wall is not dark", 1 + 58, x.fellow(0, 3));
        Check.work(x, "day;");
        check.same("1 has faded", 1 + 58 + 64, x.fellow(0, 3));
        Check.work(x, "give 0 0 1;day;day;day;");
        check.same("1 is left of 5", 58 + 64, x.fellow(0, 3));
        Check.work(x, "day;");
        check.same("all has faded", 58 + 64 + 4, x.fellow(0, 3));
        Check.work(x, "take 0 0 1;");
        check.same("all is dark", 127, x.fellow(0, 3));
        check.same("none is dark", 0, Check.with("fellow 1 1 1 1 1 1 1;").fellow(0, 3));
    }

    // "WHITE is a FELLOW within whom there is as much of each PART, and any."
    private static void white() {
        PartedFellows x = Check.with("fellow 1 1 1 1 1 1 1;fellow 0 0 0 0 0 0 0;fellow 40 40 40 40 40 40 40;"
                + "fellow 2 2 2 2 2 2 1;fellow 1 2 2 2 2 2 2;fellow 3 3 3 3 3 3 3;glass 1 0;glass 1 1;");
        check.same("who is white", 1 + 4 + 32, x.told(4));
        int[] due = {1, 0, 1, 0, 0, 1};
        for (int fellow = 0; fellow < 6; fellow++) {
            check.same("fellow(" + fellow + ", 4)", due[fellow], x.fellow(fellow, 4));
        }
        Check.work(x, "part 0 0;");
        check.same("who is parted is not", 4 + 32, x.told(4));
        Check.work(x, "join 0 1;take 3 0 1;take 3 1 1;take 3 2 1;take 3 3 1;take 3 4 1;take 3 5 1;");
        check.same("joined, and as much of each by take", 1 + 4 + 8 + 32, x.told(4));
        Check.work(x, "take 2 3 1;swap 5 0 3;");
        check.same("1 less of one", 8, x.told(4));
    }

    // "Of one FELLOW's PART all that lies on the wall lies at one PLACE."
    private static void onePlace() {
        PartedFellows x = with("fellow 4 0 0 0 0 0 0;glass 1 0;glass 5 0;glass 9 0;", "",
                "take 0 0 3;part 0 0;give 0 0 1;part 0 1;give 0 0 1;part 0 2;");
        check.same("where", 9, x.part(0, 0, 2));
        check.same("how much", 3, x.part(0, 0, 1));
        check.same("one place", 1, x.lit());
        check.same("nothing at 1", 0, x.place(1));
        check.same("nothing at 5", 0, x.place(5));
        check.same("nothing at 8", 0, x.place(8));
        check.same("all at 9", 3, x.place(9));
        check.same("nothing at 10", 0, x.place(10));
        Check.work(x, "day;give 0 0 1;part 0 1;");
        check.same("it goes back", 3, x.place(5));
    }

    // "6 the least PLACE where anything of him lies (NONE), 7 the greatest"; "2 at which PLACE (NONE: none lies there)"
    private static void placesOfFellows() {
        PartedFellows x = with("fellow 2 1 1 1 1 1 2;fellow 0 0 0 1 0 0 0;glass 1 0;wall 10;", "part*3", "");
        check.same("none lies there", -1, x.fellow(0, 6));
        check.same("none lies there", -1, x.fellow(0, 7));
        Check.work(x, "part 0 0;part 1 0;");
        check.same("the first place", 0, x.fellow(0, 6));
        check.same("the last place", 9, x.fellow(0, 7));
        check.same("place 0", 2, x.place(0));
        check.same("place 9: parts 3 to 6, and the other one's", 1 + 1 + 1 + 2 + 1, x.place(9));
        check.same("least and greatest of one", 9, x.fellow(1, 6));
        check.same("least and greatest of one", 9, x.fellow(1, 7));
        check.same("of 1 on the wall", 3, x.told(5));
        Check.work(x, "day;");
        check.same("1 is left at 0", 0, x.fellow(0, 6));
        check.same("1 is left at 9", 9, x.fellow(0, 7));
        check.same("nothing of the other one", -1, x.fellow(1, 6));
        check.same("nothing of the other one", -1, x.fellow(1, 7));
        check.same("of 1 on the wall", 1, x.told(5));
        check.same("of him", 2, x.fellow(0, 1));
        Check.work(x, "day;");
        check.same("all has faded", -1, x.fellow(0, 6));
        check.same("all has faded", -1, x.fellow(0, 7));
        check.same("nobody", 0, x.told(5));
        check.same("at no place", -1, x.part(0, 0, 2));
    }

    /** The last fellow, part, glass and place count as the first ones do. */
    private static void lastOnes() {
        String[] each = new String[6];
        for (int i = 0; i < 6; i++) {
            each[i] = "fellow 0 0 0 0 0 0 " + (i + 1) + ";";
        }
        PartedFellows x = with(String.join("", each) + "glass 1 0;".repeat(7) + "glass 9 0;wall 99;", "part*9+bend*5", "part 5 7;take 4 6 2;");
        check.same("within", 1 + 2 + 3 + 4 + 3, x.told(6));
        check.same("on the wall", 6, x.told(7));
        check.same("taken", 2, x.told(8));
        check.same("of whom", 32, x.told(5));
        check.same("parted", 1, x.told(11));
        check.same("at the last place", 6, x.place(98));
        check.same("nothing beside it", 0, x.place(97));
        check.same("lit", 1, x.lit());
        check.same("of him", 6, x.fellow(5, 1));
        check.same("of the part", 6, x.part(5, 6, 1));
        check.same("where", 98, x.part(5, 6, 2));
        check.same("the bend", 9, x.glass(7, 0));
    }
}
