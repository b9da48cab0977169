/** Promises 1 to 8: a new object, the tape, the four texts and their faults, undo. */
public final class TextTest {
    private static final Check check = new Check("TextTest");
    private static final String FELLOW = "fellow 1 2 3 4 5 6 7;";
    private static final String TWO = FELLOW + "fellow 5 5 5 5 5 5 5;glass 2 0;glass 2 1;wall 40;";

    public static void main(String[] args) {
        newObject();
        feeds();
        colleges();
        collegeFaults();
        collegeStays();
        laws();
        lawFaults();
        lawDepth();
        works();
        workFaults();
        workLimits();
        books();
        textLengths();
        undoes();
        check.end();
    }

    private static void newObject() {
        PartedFellows x = new PartedFellows();
        check.same("NONE", -1, PartedFellows.NONE);
        for (int what = 0; what <= 11; what++) {
            check.same("told(" + what + ") of a new object", what == 2 ? 60 : 0, x.told(what));
        }
        check.same("fault()", -1, x.fault());
        check.same("undo()", -1, x.undo());
        check.same("restore()", -1, x.restore());
        for (int what = 0; what < 3; what++) {
            check.same("count(" + what + ")", 0, x.count(what));
        }
        check.same("would by no law", 12, x.would(3, 0, 3, 0, 0, 0, 0, 0));
    }

    private static void feeds() {
        PartedFellows x = new PartedFellows();
        for (int i = 1; i <= 30; i++) {
            check.same("feed", 20 * i, x.feed(0x20202020, 0x20202020, 0x20202020, 0x20202020, 0x20202020));
        }
        check.same("the 31st feed", -1, x.feed(1, 2, 3, 4, 5));
        check.same("count(1)", 600, x.count(1));
        check.same("600 blanks are a college", 0, x.college(600));
        check.same("the tape is empty then", 0, x.count(1));
        // the highest byte of each number comes first: "wall 12;" and blanks
        x.feed(('w' << 24) | ('a' << 16) | ('l' << 8) | 'l', (' ' << 24) | ('1' << 16) | ('2' << 8) | ';', 0, 0, 0);
        x.college(8);
        check.same("W", 12, x.told(2));
    }

    private static void fault(String what, PartedFellows x, int answer, int kind, int place) {
        check.same(what + " answers", kind - 10, answer);
        check.same(what + ": fault()", place, x.fault());
        check.same(what + ": the tape is empty", 0, x.count(1));
    }

    private static void colleges() {
        PartedFellows x = new PartedFellows();
        check.same("two fellows", 2, Check.college(x, TWO));
        check.same("glasses", 2, x.told(1));
        check.same("W", 40, x.told(2));
        check.same("part", 7, x.part(0, 6, 0));
        check.same("bend", 2, x.glass(0, 0));
        check.same("kind", 1, x.glass(1, 1));
        check.same("the last wall counts", 0, Check.college(x, "wall 10;wall 99;wall 20;"));
        check.same("W", 20, x.told(2));
        check.same("without a wall", 1, Check.college(x, "fellow 0 40 0 0 0 0 0;"));
        check.same("W", 60, x.told(2));
        check.same("blanks", 1, Check.college(x, "  fellow  0001 2 3 4 5 6 00000000000000000000040  ;  wall10 ; "));
        check.same("leading zeros", 40, x.part(0, 6, 0));
        check.same("words need no blank behind", 10, x.told(2));
        StringBuilder six = new StringBuilder();
        for (int i = 0; i < 6; i++) {
            six.append(FELLOW);
        }
        check.same("six fellows", 6, Check.college(x, six.toString()));
        check.same("sixty clauses", 0, Check.college(x, "wall 10;".repeat(60)));
        check.same("eight glasses", 0, Check.college(x, "glass 9 1;".repeat(8)));
        check.same("eight glasses", 8, x.told(1));
    }

    private static void collegeFault(String text, int kind, int place) {
        PartedFellows x = new PartedFellows();
        fault("college " + text, x, Check.college(x, text), kind, place);
    }

    private static void collegeFaults() {
        collegeFault("fellow 41 0 0 0 0 0 0;", 2, 7);
        collegeFault("fellow 0 0 0 0 0 0;", 1, 18);
        collegeFault("fellow 0 0 0 0 0 0 0 0;", 1, 21);
        collegeFault("fellow 0 0 0 0 0 0 0", 1, 20);
        collegeFault("fellow 0 0 0 0 0 0 0  ", 1, 22);
        collegeFault("glass 0 0;", 2, 6);
        collegeFault("glass 10 0;", 2, 6);
        collegeFault("glass 1 2;", 2, 8);
        collegeFault("wall 9;", 2, 5);
        collegeFault("wall 100;", 2, 5);
        collegeFault("wall 4294967306;", 2, 5);
        collegeFault("wall 99999999999999999999999999999999;", 2, 5);
        collegeFault("wall -5;", 1, 5);
        collegeFault("Wall 10;", 1, 0);
        collegeFault("walls 10;", 1, 0);
        collegeFault("wal 10;", 1, 0);
        collegeFault("wallx10;", 1, 0);
        collegeFault(";", 1, 0);
        collegeFault("wall 10;;", 1, 8);
        collegeFault("wall 10; 7", 1, 9);
        collegeFault("wall\t10;", 1, 4);
        collegeFault("wall 10:", 1, 7);
        collegeFault("wall " + (char) 233 + ";", 1, 5);
        collegeFault(FELLOW.repeat(7), 3, 126);
        collegeFault("glass 1 0;".repeat(9), 3, 80);
        collegeFault("wall 10;".repeat(61), 3, 480);
        collegeFault("wall 10;".repeat(60) + " wall", 3, 481);
        // of two faults at one place the least: a 61st clause whose word can't stand there
        collegeFault("wall 10;".repeat(60) + "well 10;", 1, 480);
        collegeFault("wall 10;".repeat(60) + "9", 1, 480);
        collegeFault("glass 12 99;", 2, 6);
    }

    private static void collegeStays() {
        PartedFellows x = Check.with(TWO);
        Check.law(x, "7");
        Check.book(x, "3 4;");
        Check.work(x, "part 0 0;part 0 0;");
        x.image();
        check.same("a bad college", -9, Check.college(x, "wall"));
        check.same("fellows stay", 2, x.told(0));
        check.same("the law stays", 7, x.would(0, 0, 1, 0, 0, 0, 0, 0));
        check.same("the book stays", 1, x.told(9));
        check.same("works stay", 1, x.count(2));
        check.same("images stay", 1, x.count(0));
        check.same("refused steps stay", 1, x.told(10));
        Check.feed(x, "wall 10;");
        check.illegal("college(21)", x, () -> x.college(21));
        check.illegal("college(-1)", x, () -> x.college(-1));
        check.same("the tape stays", 20, x.count(1));
        check.same("the fault stays, no text was read", 4, x.fault());
        check.same("college(8)", 0, x.college(8));
        check.same("no law", 1, x.would(0, 0, 1, 0, 0, 0, 0, 0));
        check.same("no book", 0, x.told(9));
        check.same("no images", 0, x.count(0));
        check.same("nothing to undo", -1, x.undo());
        check.same("no steps refused", 0, x.told(10));
        check.same("no fault", -1, x.fault());
        check.same("nothing lies there", 0, x.told(7));
    }

    private static int by(String law) {
        PartedFellows x = Check.with("wall 99;");
        check.same("law " + law, 1, Check.law(x, law));
        return x.would(2, 30, 4, 50, 6, 70, 8, 5);
    }

    private static void laws() {
        String[] names = {"part", "much", "bend", "all", "taken", "turns", "day", "fellow"};
        int[] values = {2, 30, 4, 50, 6, 70, 8, 5};
        for (int i = 0; i < names.length; i++) {
            check.same(names[i], values[i], by(names[i]));
        }
        check.same("from the left", 5, by("10-3-2"));
        check.same("times ahead of plus", 14, by("2+3*4"));
        check.same("a bracket", 20, by(" ( 2 + 3 ) * 4 "));
        check.same("/ cuts", 6, by("20/3"));
        check.same("/ cuts towards 0", 8, by("10+(0-5)/2"));
        check.same("% leaves the sign", 9, by("10+(0-5)%2"));
        check.same("by 0", 10, by("10+5/0+5%0"));
        check.same("from the left too", 1, by("20/3*4%23"));
        check.same("least", 3, by("least[3,7]"));
        check.same("most", 7, by("most [ 3 , 7 ]"));
        check.same("least of most", 4, by("least[most[1,bend],9]"));
        check.same("0 at least", 0, by("3-9"));
        check.same("W less 1 at most", 98, by("999"));
        check.same("wraps above", 0, by("999*999*999*3"));
        check.same("wraps round", 98, by("(0-999*999*999*3)"));
        check.same("2^31 is below 0", 0, by("512*512*512*16"));
        check.same("the least number by -1", 0, by("512*512*512*16/(0-1)"));
        check.same("the least number, left by -1", 5, by("5+512*512*512*16%(0-1)"));
        check.same("leading zeros", 12, by("000012"));
        PartedFellows x = Check.with("wall 10;");
        check.same("W counts", 9, x.would(6, 0, 9, 0, 0, 0, 0, 0));
        Check.law(x, "8");
        check.same("a bad law", -9, Check.law(x, "9+"));
        check.same("the law stays", 8, x.would(0, 0, 1, 0, 0, 0, 0, 0));
    }

    private static void lawFault(String text, int kind, int place) {
        PartedFellows x = new PartedFellows();
        fault("law " + text, x, Check.law(x, text), kind, place);
    }

    private static void lawFaults() {
        PartedFellows x = new PartedFellows();
        fault("an empty law", x, x.law(0), 1, 0);
        lawFault("   ", 1, 3);
        lawFault("bend+", 1, 5);
        lawFault("bend+  ", 1, 7);
        lawFault("1000", 2, 0);
        lawFault("1+ 1000", 2, 3);
        lawFault("-1", 1, 0);
        lawFault("1 2", 1, 2);
        lawFault("1)", 1, 1);
        lawFault("(1", 1, 2);
        lawFault("(1]", 1, 2);
        lawFault("()", 1, 1);
        lawFault("least 5", 1, 6);
        lawFault("least", 1, 5);
        lawFault("least[1]", 1, 7);
        lawFault("least[1,2)", 1, 9);
        lawFault("most[1,2", 1, 8);
        lawFault("most(1,2)", 1, 4);
        lawFault("days", 1, 0);
        lawFault("dayz", 1, 0);
        lawFault("aday", 1, 0);
        lawFault("again", 1, 0);
        lawFault("1;", 1, 1);
        lawFault("part part", 1, 5);
        lawFault("2bend", 1, 1);
        lawFault("1**2", 1, 2);
    }

    private static void lawDepth() {
        check.same("six brackets", 5, by("((((((5))))))"));
        check.same("six, one after the other", 6, by("(((((1)))))+((((((5))))))"));
        lawFault("(((((((1", 3, 6);
        lawFault("((((((least[1,2]))))))", 3, 6);
        lawFault("((((((  most", 3, 8);
        lawFault("least[1,least[1,most[1,most[1,least[1,least[1,(2)]]]]]]", 3, 46);
        lawFault("((((((days))))))", 1, 6);
        check.same("six of all", 2, by("most[1,least[3,(((most[1,2])))]]"));
    }

    private static void works() {
        PartedFellows x = Check.with(TWO);
        check.same("no steps", 0, x.work(0));
        check.same("a work", 1, x.count(2));
        check.same("take, give, swap, day", 4, Check.work(x, " take 0 6 3 ; give 0 6 1 ; swap 0 1 0 ; day ; "));
        check.same("within", 5, x.part(0, 6, 0));
        check.same("taken", 2, x.part(0, 6, 3));
        check.same("swapped", 5, x.part(0, 0, 0));
        check.same("swapped", 1, x.part(1, 0, 0));
        check.same("the day", 1, x.told(3));
        check.same("refused", 0, x.told(10));
        check.same("refused ones are not counted", 1, Check.work(x, "give 0 0 1;take 0 1 3;swap 0 0 1;swap 0 1 4;day;"));
        check.same("refused", 4, x.told(10));
        check.same("part, join", 2, Check.work(x, "part 0 0;join 0 1;"));
        check.same("parted once", 1, x.fellow(0, 5));
        check.same("a glass that joins does not part", 0, Check.work(x, "part 0 1;join 0 0;join 0 1;"));
        check.same("refused", 3, x.told(10));
        parting();
        joining();
        fading();
    }

    private static void parting() {
        PartedFellows x = Check.with("fellow 3 0 4 0 0 0 0;glass 1 0;glass 2 0;glass 1 1;wall 50;");
        check.same("part", 1, Check.work(x, "part 0 1;"));
        check.same("place of red", 2, x.part(0, 0, 2));
        check.same("a part of which there is none", -1, x.part(0, 1, 2));
        check.same("place of 2", 6, x.part(0, 2, 2));
        check.same("nothing is within him", 0, Check.work(x, "part 0 1;"));
        Check.law(x, "turns+all+much+day");
        Check.work(x, "day;day;");
        check.same("red fades", 1, x.part(0, 0, 1));
        Check.law(x, "bend");
        Check.work(x, "join 0 2;");
        check.same("what lies elsewhere is missed", 0, x.fellow(0, 0));
        Check.law(x, "2");
        Check.work(x, "join 0 2;take 0 0 1;");
        check.same("what lies there is within", 0, x.fellow(0, 0));
        check.same("taken", 1, x.part(0, 0, 3));
        // the other part still lies at 6; given back, red goes elsewhere by all, turns and much as ahead of it
        Check.law(x, "10*all+5*turns+much");
        check.same("give, part", 2, Check.work(x, "give 0 0 1;part 0 0;"));
        check.same("by turns as ahead", 16, x.part(0, 0, 2));
        check.same("another part stays", 6, x.part(0, 2, 2));
        PartedFellows y = Check.with("fellow 2 3 0 0 0 0 0;glass 1 0;");
        Check.law(y, "10*all+much");
        Check.work(y, "part 0 0;");
        check.same("all as ahead of it", 52, y.part(0, 0, 2));
        check.same("all as ahead of it", 53, y.part(0, 1, 2));
        PartedFellows z = Check.with("fellow 4 0 0 0 0 0 0;glass 1 0;glass 7 0;");
        check.same("part twice", 4, Check.work(z, "take 0 0 1;part 0 0;give 0 0 1;part 0 1;"));
        check.same("what lay there goes along", 7, z.part(0, 0, 2));
        check.same("all of it", 4, z.place(7));
        check.same("none stays", 0, z.place(1));
    }

    private static void joining() {
        PartedFellows x = Check.with("fellow 2 3 0 0 0 0 0;glass 1 0;glass 1 1;");
        Check.law(x, "much+5*part");
        check.same("part, join by what lies there", 2, Check.work(x, "part 0 0;join 0 1;"));
        check.same("within again", 5, x.fellow(0, 0));
        check.same("a day changes much", 2, Check.work(x, "part 0 0;day;join 0 1;"));
        check.same("nothing within", 0, x.fellow(0, 0));
        Check.law(x, "2+6*part+10*all");
        check.same("all as ahead of it", 1, Check.work(x, "join 0 1;"));
        check.same("both", 3, x.fellow(0, 0));
        check.same("none lies there", -1, x.part(0, 0, 2));
    }

    private static void fading() {
        PartedFellows x = Check.with("fellow 1 2 0 0 0 0 0;fellow 0 0 0 0 0 0 3;glass 1 0;");
        Check.work(x, "part 0 0;part 1 0;day;");
        check.same("1 less of each", 3, x.told(7));
        check.same("gone for good", 1, x.fellow(0, 3) & 1);
        check.same("within is not less", 0, x.told(6));
        PartedFellows y = new PartedFellows();
        check.same("an again and 199 days", 199, Check.work(y, "again 40[day;day;day;day;day;];"));
        Check.work(y, "again 40[day;day;day;day;day;];");
        check.same("398", 398, y.told(3));
        check.same("to 400", 2, Check.work(y, "again 20[day;];"));
        check.same("refused from 400 on", 18, y.told(10));
        check.same("400", 400, y.told(3));
    }

    private static void workFault(String text, int kind, int place) {
        PartedFellows x = Check.with(TWO);
        fault("work " + text, x, Check.work(x, text), kind, place);
        check.same("nothing to undo", 0, x.count(2));
        check.same("no step is done", 0, x.told(3));
    }

    private static void workFaults() {
        workFault("day;day", 1, 7);
        workFault("day;day ", 1, 8);
        workFault("day;days;", 1, 4);
        workFault("day; part 2 0;", 2, 10);
        workFault("part 0 2;", 2, 7);
        workFault("part 0;", 1, 6);
        workFault("join 9 9;", 2, 5);
        workFault("take 0 7 1;", 2, 7);
        workFault("take 0 6 0;", 2, 9);
        workFault("take 0 6 41;", 2, 9);
        workFault("give 2 0 1;", 2, 5);
        workFault("give 0 0;", 1, 8);
        workFault("swap 0 2 0;", 2, 7);
        workFault("swap 0 1 7;", 2, 9);
        workFault("again 41[];", 2, 6);
        workFault("again 1 day;", 1, 8);
        workFault("again 1[day;]", 1, 13);
        workFault("again 1[day;", 1, 12);
        workFault("again 1[day];", 1, 11);
        workFault("again 1[];];", 1, 10);
        workFault("again[];", 1, 5);
        workFault("]", 1, 0);
        workFault("day;least", 1, 4);
        workFault("again 1[".repeat(7), 3, 48);
        workFault("again 1[".repeat(6) + " again 99", 3, 49);
        workFault("again 1[".repeat(6) + "day;agains", 1, 52);
        PartedFellows none = new PartedFellows();
        fault("work without fellows", none, Check.work(none, "part 0 0;"), 2, 5);
        PartedFellows x = Check.with(TWO);
        check.same("six agains", 1, Check.work(x, "again 1[".repeat(6) + "day;" + "];".repeat(6)));
    }

    private static void workLimits() {
        PartedFellows x = Check.with(TWO);
        // each again is a step: 1 + 40 * (1 + 2 + 2) = 201, so the last take is left out
        check.same("agains are begun each time", 120, Check.work(x, "again 40[day;again 2[day;];take 0 0 9;];"));
        check.same("refused ones are begun, too", 39, x.told(10));
        check.same("again 0", 1, Check.work(x, "again 0[day;];day;"));
        check.same("agains without steps", 1, Check.work(x, "again 40[again 40[];];day;"));
        PartedFellows y = new PartedFellows();
        check.same("agains alone end it", 0, Check.work(y, "again 40[again 40[];again 40[];again 40[];again 40[];again 40[];];day;"));
        PartedFellows z = Check.with(TWO);
        check.same("what comes behind is left out", 199, Check.work(z, "again 40[day;day;day;day;day;];day;"));
        for (int i = 1; i < 16; i++) {
            check.same("work", 0, z.work(0));
        }
        Check.work(z, "day");
        check.same("16 are there", 16, z.count(2));
        Check.feed(z, "days");
        check.illegal("an n that is none comes first", z, () -> z.work(21));
        check.same("the tape stays", 20, z.count(1));
        check.same("a 17th", -20, z.work(4));
        check.same("nothing is read", -1, z.fault());
        check.same("the tape is empty", 0, z.count(1));
        z.undo();
        check.same("after undo there is room", 0, z.work(0));
    }

    private static void books() {
        PartedFellows x = Check.with(TWO);
        check.same("no lines", 0, x.book(0));
        check.same("two lines", 2, Check.book(x, " 5 9 ; 39 400 ; "));
        check.same("lines", 2, x.told(9));
        check.same("eight lines", 8, Check.book(x, "0 1;".repeat(8)));
        fault("nine lines", x, Check.book(x, "0 1;".repeat(8) + " 0 1;"), 3, 33);
        fault("a ninth line with a place that is none", x, Check.book(x, "0 1;".repeat(8) + "40 1;"), 2, 32);
        fault("a ninth line that is none", x, Check.book(x, "0 1;".repeat(8) + ";"), 1, 32);
        fault("no such place", x, Check.book(x, "40 1;"), 2, 0);
        fault("too much", x, Check.book(x, "0 401;"), 2, 2);
        fault("too short", x, Check.book(x, "0;"), 1, 1);
        fault("too early", x, Check.book(x, "0 1"), 1, 3);
        fault("a word", x, Check.book(x, "wall 1;"), 1, 0);
        check.same("the book stays", 8, x.told(9));
        check.same("an empty book", 0, x.book(0));
        check.same("lines", 0, x.told(9));
    }

    private static void textLengths() {
        PartedFellows x = new PartedFellows();
        Check.feed(x, " ".repeat(160));
        check.illegal("law(151)", x, () -> x.law(151));
        check.illegal("work(151)", x, () -> x.work(151));
        check.illegal("book(61)", x, () -> x.book(61));
        check.illegal("book(-1)", x, () -> x.book(-1));
        check.illegal("law(-1)", x, () -> x.law(Integer.MIN_VALUE));
        check.same("the tape stays", 160, x.count(1));
        check.same("work(150)", 0, x.work(150));
        Check.feed(x, " ".repeat(60));
        check.same("book(60)", 0, x.book(60));
        check.same("law(150)", 1, Check.law(x, " ".repeat(149) + "1"));
        Check.feed(x, "1+2 rubbish behind");
        check.same("the first n bytes alone", 1, x.law(3));
        check.same("they are the law", 3, x.would(0, 0, 1, 0, 0, 0, 0, 0));
        bytesBehind("1+2", 2, 'l');
        bytesBehind("(1)", 2, 'l');
        bytesBehind("least[1,2]", 9, 'l');
        bytesBehind("again 1[day;];", 12, 'w');
        bytesBehind("again 1[];", 9, 'w');
        bytesBehind("day;", 3, 'w');
        bytesBehind("0 1;", 3, 'b');
        bytesBehind("0 1;", 2, 'b');
        bytesBehind("wall 10;", 7, 'c');
        bytesBehind("wall 10;", 5, 'c');
        Check.feed(x, "wall 101;");
        check.same("a number ends with the text", -9, x.college(7));
        check.same("at the length", 7, x.fault());
    }

    /** What stands behind the first n bytes on the tape is no part of the text. */
    private static void bytesBehind(String text, int n, char kind) {
        PartedFellows x = new PartedFellows();
        Check.feed(x, text);
        int answer = kind == 'l' ? x.law(n) : kind == 'w' ? x.work(n) : kind == 'b' ? x.book(n) : x.college(n);
        fault(n + " bytes of " + text, x, answer, 1, n);
    }

    private static void undoes() {
        PartedFellows x = Check.with(TWO);
        Check.work(x, "part 0 0;take 1 2 3;day;swap 0 1 1;");
        Check.work(x, "day;give 0 0 1;");
        check.same("refused", 1, x.told(10));
        check.same("undo", 1, x.undo());
        check.same("refused behind undo", 0, x.told(10));
        check.same("day", 1, x.told(3));
        check.same("undo", 0, x.undo());
        check.same("day", 0, x.told(3));
        check.same("within", 63, x.told(6));
        check.same("wall", 0, x.told(7));
        check.same("taken", 0, x.told(8));
        check.same("parted", 0, x.told(11));
        check.same("swapped back", 2, x.part(0, 1, 0));
        check.same("undo", -1, x.undo());
    }
}
