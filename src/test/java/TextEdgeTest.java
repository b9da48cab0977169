/** The boundaries that 'Terms' and promises 1 to 8 name for texts, sentence by sentence. */
public final class TextEdgeTest {
    private static final Check check = new Check("TextEdgeTest");
    private static final String NOTHING = "fellow 0 0 0 0 0 0 0;";

    public static void main(String[] args) {
        tape();
        collegeLength();
        clauses();
        fellows();
        glasses();
        walls();
        numbers();
        wordsAndBlanks();
        firstFromTheLeft();
        lawLength();
        lawNumbers();
        lawBounds();
        lawWraps();
        lawDivides();
        lawEnds();
        latestLaw();
        openAtOneTime();
        workLength();
        workNumbers();
        workWithoutAny();
        agains();
        sixteenWorks();
        bookLength();
        bookNumbers();
        bookLines();
        latestFault();
        newCollege();
        check.end();
    }

    /** Two fellows, three glasses, and something of all that a fault could spoil. */
    private static PartedFellows base() {
        PartedFellows x = Check.with("fellow 5 5 5 5 5 5 5;fellow 10 0 3 0 7 1 2;glass 2 0;glass 2 1;glass 5 0;wall 40;");
        Check.law(x, "part*2+1");
        Check.book(x, "3 4;");
        Check.work(x, "part 0 0;day;give 0 0 1;");
        x.image();
        Check.work(x, "take 1 0 3;day;join 0 0;");
        return x;
    }

    private static int tell(PartedFellows x, String name, String text) {
        int n = Check.feed(x, text);
        switch (name) {
            case "college": return x.college(n);
            case "law": return x.law(n);
            case "work": return x.work(n);
            default: return x.book(n);
        }
    }

    private static void bad(String name, String text, int kind, int place) {
        PartedFellows x = base();
        String call = name + " " + text;
        check.same(call, kind - 10, tell(x, name, text));
        check.same(call + ": fault()", place, x.fault());
        check.same(call + ": the tape is empty then", 0, x.count(1));
        PartedFellows twin = base();
        check.alike(call + ": all stays", Sight.of(twin), Sight.of(x));
        check.alike(call + ": all stays", Sight.behind(twin), Sight.behind(x));
    }

    private static PartedFellows good(String name, String text, int answer) {
        PartedFellows x = base();
        Check.work(x, "x");
        check.same(name + " " + text, answer, tell(x, name, text));
        check.same(name + " " + text + ": fault()", -1, x.fault());
        check.same(name + " " + text + ": the tape is empty then", 0, x.count(1));
        return x;
    }

    private static int turn(String wall, String law) {
        PartedFellows x = Check.with(wall);
        check.same("law " + law, 1, Check.law(x, law));
        return x.would(6, 400, 9, 2800, 300, 999, 400, 5);
    }

    private static String blanks(int n) {
        return " ".repeat(n);
    }

    // "Twenty bytes come on the TAPE, of each number the highest first: how many there are; NONE, doing nothing, if
    // there would be more than 600."
    private static void tape() {
        PartedFellows x = new PartedFellows();
        for (int i = 1; i <= 29; i++) {
            check.same("feed", 20 * i, x.feed(0x20202020, 0x20202020, 0x20202020, 0x20202020, 0x20202020));
        }
        check.same("the 30th", 600, x.feed(0x20202020, 0x20202020, 0x20202020, 0x77616c6c, 0x2034353b));
        for (int i = 0; i < 3; i++) {
            check.same("the 31st", -1, x.feed(0x78787878, 0x78787878, 0x78787878, 0x78787878, 0x78787878));
            check.same("count(1)", 600, x.count(1));
        }
        check.same("nothing of the 31st is there", 0, x.college(600));
        check.same("the last bytes are", 45, x.told(2));
        check.same("there is room again", 20, x.feed(0x77616c6c, 0x31323b77, 0x616c6c33, 0x343b7761, 0x6c6c3536));
        check.same("and more", 40, x.feed(0x3b000000, 0, 0, 0, 0));
        check.same("wall12;wall34;wall56;", 0, x.college(21));
        check.same("all in their order", 56, x.told(2));
        for (int odd : new int[] {0, 31, 33, 127, 128, 160, 255}) {
            x.feed(0x77616c6c, 0x3130003b | odd << 8, -1, Integer.MIN_VALUE, 0);
            check.same("a byte that no text has: " + odd, -9, x.college(8));
            check.same("where it stands", 6, x.fault());
        }
    }

    // "A COLLEGE is a text of up to 600 bytes"; "at the length, if the text ends too early"
    private static void collegeLength() {
        PartedFellows x = good("college", "wall 10;" + blanks(584) + "wall 11;", 0);
        check.same("W", 11, x.told(2));
        bad("college", blanks(593) + "wall 11", 1, 600);
        bad("college", blanks(595) + "wall ", 1, 600);
        bad("college", blanks(596) + "wall", 1, 600);
        bad("college", blanks(597) + "wal", 1, 597);
        bad("college", "wall 10" + blanks(593), 1, 600);
        good("college", blanks(600), 0);
        good("college", "", 0);
        good("college", " ", 0);
        bad("college", "fellow", 1, 6);
        bad("college", "fellow 0 0 0 0 0 0 ", 1, 19);
        bad("college", "fellow 0 0 0 0 0 0 0", 1, 20);
        bad("college", "glass", 1, 5);
        bad("college", "glass 1", 1, 7);
        bad("college", "glass 1 0", 1, 9);
    }

    // "{ CLAUSE ";" }, at most 60"; "3 a CLAUSE .. too many (at its word)"
    private static void clauses() {
        String full = NOTHING.repeat(6) + "glass 1 0;".repeat(8) + "wall 12;".repeat(46);
        PartedFellows x = good("college", full, 6);
        check.same("glasses", 8, x.told(1));
        check.same("W", 12, x.told(2));
        check.same("the 60th counts", 99, good("college", "wall 10;".repeat(59) + "wall 99;", 0).told(2));
        good("college", "wall 10;".repeat(60) + blanks(120), 0);
        bad("college", full + "wall 12;", 3, full.length());
        bad("college", full + "  wall 12;", 3, full.length() + 2);
        bad("college", "wall 10;".repeat(60) + "fellow", 3, 480);
        bad("college", "wall 10;".repeat(60) + "glass 0 9;", 3, 480);
        bad("college", "wall 10;".repeat(60) + "wall 9;", 3, 480);
        // of one the least: what can't stand there at all
        bad("college", "wall 10;".repeat(60) + "walls 10;", 1, 480);
        bad("college", "wall 10;".repeat(60) + ";", 1, 480);
        bad("college", "wall 10;".repeat(60) + "10;", 1, 480);
        bad("college", "wall 10;".repeat(59) + "wall 100;wall 10;", 2, 477);
    }

    // "FELLOWS, numbered from 0 on, 6 at most: how much of each PART .. 0 to 40 each"
    private static void fellows() {
        for (int part = 0; part < 7; part++) {
            StringBuilder most = new StringBuilder("fellow");
            StringBuilder above = new StringBuilder("fellow");
            for (int i = 0; i < 7; i++) {
                most.append(i == part ? " 40" : " 0");
                above.append(i == part ? " 41" : " 0");
            }
            PartedFellows x = good("college", most + ";", 1);
            for (int i = 0; i < 7; i++) {
                check.same("how much of " + i, i == part ? 40 : 0, x.part(0, i, 0));
            }
            bad("college", above + ";", 2, 7 + 2 * part);
        }
        PartedFellows x = good("college", "fellow 1 1 1 1 1 1 1;fellow 2 2 2 2 2 2 2;fellow 3 3 3 3 3 3 3;"
                + "fellow 4 4 4 4 4 4 4;fellow 5 5 5 5 5 5 5;fellow 6 6 6 6 6 6 6;", 6);
        for (int fellow = 0; fellow < 6; fellow++) {
            check.same("numbered from 0 on", 7 * (fellow + 1), x.fellow(fellow, 0));
        }
        bad("college", NOTHING.repeat(6) + "fellow", 3, 126);
        bad("college", NOTHING.repeat(6) + "wall 10;   fellow 99", 3, 137);
        bad("college", NOTHING.repeat(6) + "fellows", 1, 126);
        bad("college", "fellow 0 0 0 0 0 0;", 1, 18);
        bad("college", "fellow 0 0 0 0 0 0 0 0;", 1, 21);
        bad("college", "fellow ;", 1, 7);
    }

    // "glass" B K (GLASSES likewise, 8: BEND B, 1 to 9, KIND K, 0 parts, 1 joins)
    private static void glasses() {
        PartedFellows x = good("college", "glass 1 0;glass 9 1;", 0);
        check.same("the least bend", 1, x.glass(0, 0));
        check.same("parts", 0, x.glass(0, 1));
        check.same("the greatest bend", 9, x.glass(1, 0));
        check.same("joins", 1, x.glass(1, 1));
        check.same("eight", 8, good("college", "glass 9 1;".repeat(8), 0).told(1));
        bad("college", "glass 9 1;".repeat(8) + "glass", 3, 80);
        bad("college", "glass 9 1;".repeat(8) + "wall 10; glass 0 0;", 3, 89);
        bad("college", "glass 9 1;".repeat(8) + "glas 1 1;", 1, 80);
        bad("college", "glass 0 0;", 2, 6);
        bad("college", "glass 10 0;", 2, 6);
        bad("college", "glass 9 2;", 2, 8);
        bad("college", "glass 9;", 1, 7);
        bad("college", "glass 9 1 0;", 1, 10);
    }

    // "wall" W (PLACES 0 to W less 1, W 10 to 99; 60 without; the last counts)
    private static void walls() {
        for (int w : new int[] {10, 11, 98, 99}) {
            PartedFellows x = good("college", "wall " + w + ";", 0);
            check.same("W", w, x.told(2));
            check.same("the last place", 0, x.place(w - 1));
            check.illegal("one behind the last place", x, () -> x.place(w));
        }
        bad("college", "wall 9;", 2, 5);
        bad("college", "wall 100;", 2, 5);
        bad("college", "wall 0;", 2, 5);
        check.same("60 without, though there was a wall", 60, good("college", NOTHING, 1).told(2));
        check.same("60 without, though a bad text had one", 60, afterBadWall());
        check.same("the last counts", 10, good("college", "wall 99;" + NOTHING + "wall 50;wall 10;glass 1 0;", 1).told(2));
        bad("college", "wall 9;wall 10;", 2, 5);
        bad("college", "wall 10;wall 9;", 2, 13);
    }

    private static int afterBadWall() {
        PartedFellows x = new PartedFellows();
        Check.college(x, "fellow 9 9 9 9 9 9 9;glass 5 1;wall 33;wall");
        check.same("nobody is there", 0, x.told(0) + x.told(1) + x.told(6));
        Check.college(x, NOTHING);
        check.same("nothing of the bad text", 0, x.told(1) + x.told(6));
        return x.told(2);
    }

    // "Numbers: digits, as many as stand there"; "2 a number that is none such"
    private static void numbers() {
        check.same("zeros ahead", 10, good("college", "wall " + "0".repeat(580) + "10;", 0).told(2));
        bad("college", "wall " + "0".repeat(580) + "9;", 2, 5);
        bad("college", "wall " + "9".repeat(590) + ";", 2, 5);
        bad("college", "wall 4294967306;", 2, 5);
        bad("college", "wall 2147483658;", 2, 5);
        bad("college", "wall 18446744073709551626;", 2, 5);
        bad("college", "wall 1410065418;", 2, 5);
        bad("college", "wall 1 0;", 2, 5);
        bad("college", "wall 10 0;", 1, 8);
        bad("college", "wall -10;", 1, 5);
        bad("college", "wall +10;", 1, 5);
        bad("college", "wall 1.0;", 2, 5);
        bad("college", "wall 10.0;", 1, 7);
        bad("college", "wall 10/;", 1, 7);
        bad("college", "wall 10:;", 1, 7);
        bad("college", "wall /;", 1, 5);
        bad("college", "wall :;", 1, 5);
        bad("college", "wall a;", 1, 5);
        bad("college", "wall 10a;", 1, 7);
    }

    // "WORDS: small letters, as many as stand there; blanks (32) may stand ahead of all these, and at the end."
    private static void wordsAndBlanks() {
        bad("college", "glass10;", 2, 5);
        PartedFellows x = good("college", "   fellow   1   2 3 4 5 6   7   ;   glass   3   1   ;   wall   20   ;   ", 1);
        check.same("W", 20, x.told(2));
        check.same("how much of violet", 7, x.part(0, 6, 0));
        check.same("a word, then a number right behind it", 20, good("college", "wall20;", 0).told(2));
        bad("college", "walls 10;", 1, 0);
        bad("college", "wal 10;", 1, 0);
        bad("college", "w all 10;", 1, 0);
        bad("college", "WALL 10;", 1, 0);
        bad("college", "waLl 10;", 1, 0);
        bad("college", "wallz 10;", 1, 0);
        bad("college", "walla 10;", 1, 0);
        bad("college", "wall{10;", 1, 4);
        bad("college", "wall`10;", 1, 4);
        bad("college", "{all 10;", 1, 0);
        bad("college", "`all 10;", 1, 0);
        bad("college", "wall" + (char) 31 + "10;", 1, 4);
        bad("college", "wall" + (char) 33 + "10;", 1, 4);
        bad("college", "wall" + (char) 9 + "10;", 1, 4);
        bad("college", "wall" + (char) 10 + "10;", 1, 4);
        bad("college", "wall" + (char) 160 + "10;", 1, 4);
        bad("college", "wall 10;" + (char) 0, 1, 8);
        bad("college", "wall 10; " + (char) 10, 1, 9);
        bad("college", "part 0 0;", 1, 0);
    }

    // "FAULTS, the first from the left, at its first byte"
    private static void firstFromTheLeft() {
        bad("college", "glass 0 2;", 2, 6);
        bad("college", "glass 10 x;", 2, 6);
        bad("college", "glass x 2;", 1, 6);
        bad("college", "wall 9", 2, 5);
        bad("college", "fellow 41", 2, 7);
        bad("college", "fellow 1 2 3 41 x", 2, 13);
        bad("college", "wall 10 glass 0 0;", 1, 8);
        bad("college", NOTHING.repeat(6) + "wall 9;" + NOTHING, 2, 131);
        bad("college", NOTHING.repeat(7) + "wall 9;", 3, 126);
        bad("law", "1000+x", 2, 0);
        bad("law", "x+1000", 1, 0);
        bad("work", "part 2 3;x", 2, 5);
        bad("work", "part x 3;", 1, 5);
        bad("book", "40 401;", 2, 0);
        bad("book", "0 401 x", 2, 2);
        bad("book", "0 x", 1, 2);
    }

    // "A LAW is a text of up to 150 bytes: E, at the end nothing more"
    private static void lawLength() {
        check.same("75 ones", 75, turn("wall 99;", "1+".repeat(74) + "1 "));
        check.same("a long product", 7, turn("wall 99;", "1*".repeat(74) + "7 "));
        check.same("a long rest", 5, turn("wall 99;", "5%9".concat("%9".repeat(73)) + " "));
        check.same("a blank each", 38, turn("wall 99;", "1 + ".repeat(37) + "1 "));
        check.same("blanks ahead", 8, turn("wall 99;", blanks(149) + "8"));
        check.same("blanks at the end", 8, turn("wall 99;", "8" + blanks(149)));
        bad("law", "1+".repeat(75), 1, 150);
        bad("law", "1" + blanks(148) + "1", 1, 149);
        bad("law", blanks(150), 1, 150);
        bad("law", blanks(145) + "least", 1, 150);
        bad("law", "", 1, 0);
        bad("law", " ", 1, 1);
    }

    // "U: N (0 to 999)"
    private static void lawNumbers() {
        check.same("0", 0, turn("wall 99;", "0"));
        check.same("999", 99 - 1, turn("wall 99;", "999"));
        check.same("999 is 999", 9, turn("wall 99;", "999-990"));
        check.same("zeros ahead", 9, turn("wall 99;", "0000000999-00990"));
        bad("law", "1000", 2, 0);
        bad("law", "0001000", 2, 0);
        bad("law", "4294967296", 2, 0);
        bad("law", "9-(1000)", 2, 3);
        bad("law", "least[1,1000]", 2, 8);
    }

    // "TURN of a PART: what comes out, 0 at least, W less 1 at most."
    private static void lawBounds() {
        for (int w : new int[] {10, 60, 99}) {
            String wall = "wall " + w + ";";
            check.same("0", 0, turn(wall, "0"));
            check.same("1", 1, turn(wall, "1"));
            check.same("below 0", 0, turn(wall, "0-1"));
            check.same("W less 2", w - 2, turn(wall, Integer.toString(w - 2)));
            check.same("W less 1", w - 1, turn(wall, Integer.toString(w - 1)));
            check.same("W", w - 1, turn(wall, Integer.toString(w)));
            check.same("W and 1", w - 1, turn(wall, Integer.toString(w + 1)));
        }
        PartedFellows x = Check.with("fellow 1 1 1 1 1 1 1;glass 1 0;wall 10;");
        Check.law(x, "(part-3)*4+5");
        Check.work(x, "part 0 0;");
        int[] due = {0, 0, 1, 5, 9, 9, 9};
        for (int part = 0; part < 7; part++) {
            check.same("the place of " + part, due[part], x.part(0, part, 2));
            check.same("would of " + part, due[part], x.would(part, 0, 1, 0, 0, 0, 0, 0));
            check.same("turn of " + part, due[part], x.turn(0, part, 0));
        }
    }

    // "Values are whole numbers of 32 bits that wrap"
    private static void lawWraps() {
        String least = "512*512*512*16";
        check.same("2^31 less 1", 98, turn("wall 99;", least + "-1"));
        check.same("2^31", 0, turn("wall 99;", least));
        check.same("2^31 less 1, and 1", 0, turn("wall 99;", "(" + least + "-1)+1"));
        check.same("2^32", 0, turn("wall 99;", least + "*2"));
        check.same("2^32, and 7", 7, turn("wall 99;", least + "*2+7"));
        check.same("2^31 twice", 5, turn("wall 99;", least + "+" + least + "+5"));
        check.same("0 less 2^31", 0, turn("wall 99;", "0-" + least));
        check.same("the least is the least", 0, turn("wall 99;", "most[" + least + ",0-1]"));
        check.same("2^31 by -1", 0, turn("wall 99;", least + "/(0-1)"));
        check.same("2^31 by -1, less 1", 98, turn("wall 99;", least + "/(0-1)-1"));
        check.same("2^31, left by -1", 3, turn("wall 99;", least + "%(0-1)+3"));
    }

    // "/ cuts, % leaves (with the sign of what is divided), by 0 both are 0"
    private static void lawDivides() {
        int[] due = {3, 4, 4, 3 + 7};
        check.same("7/2", due[0], turn("", "7/2"));
        check.same("8/2", due[1], turn("", "8/2"));
        check.same("-7/2", due[2], turn("", "7+(0-7)/2"));
        check.same("-7/-2", due[3], turn("", "7+(0-7)/(0-2)"));
        check.same("7/-2", 4, turn("", "7+7/(0-2)"));
        check.same("1/2", 0, turn("", "1/2*50"));
        check.same("-1/2", 9, turn("", "9+(0-1)/2"));
        check.same("7%2", 1, turn("", "7%2"));
        check.same("8%2", 0, turn("", "8%2"));
        check.same("-7%2", 8, turn("", "9+(0-7)%2"));
        check.same("7%-2", 10, turn("", "9+7%(0-2)"));
        check.same("-7%-2", 8, turn("", "9+(0-7)%(0-2)"));
        check.same("7/0", 9, turn("", "9+7/0"));
        check.same("7%0", 9, turn("", "9+7%0"));
        check.same("-7/0", 9, turn("", "9+(0-7)/0"));
        check.same("-7%0", 9, turn("", "9+(0-7)%0"));
        check.same("0/0", 9, turn("", "9+0/0+0%0"));
        check.same("by what is 0", 9, turn("", "9+7/(3-3)+7%(bend-9)"));
        check.same("the rest goes on", 5, turn("", "7/0*3+5"));
        check.same("least of alike ones", 3, turn("", "least[3,3]"));
        check.same("least below 0", 4, turn("", "least[0-5,3]+9"));
        check.same("most above 0", 12, turn("", "most[0-5,3]+9"));
        check.same("most below 0", 7, turn("", "most[0-5,0-2]+9"));
    }

    private static void lawEnds() {
        bad("law", "1 1", 1, 2);
        bad("law", "1,", 1, 1);
        bad("law", "1;", 1, 1);
        bad("law", "1]", 1, 1);
        bad("law", "1)", 1, 1);
        bad("law", "1(", 1, 1);
        bad("law", "1part", 1, 1);
        bad("law", "part1", 1, 4);
        bad("law", "(1,2)", 1, 2);
        bad("law", "(1", 1, 2);
        bad("law", "(", 1, 1);
        bad("law", "()", 1, 1);
        bad("law", "[1]", 1, 0);
        bad("law", "least[1;2]", 1, 7);
        bad("law", "most[1,2,3]", 1, 8);
        bad("law", "most[1]", 1, 6);
        bad("law", "most[,1]", 1, 5);
        bad("law", "most[1,]", 1, 7);
        bad("law", "most[1,2", 1, 8);
        bad("law", "most[1,", 1, 7);
        bad("law", "most[1", 1, 6);
        bad("law", "most[", 1, 5);
        bad("law", "least(1,2)", 1, 5);
        bad("law", "-1", 1, 0);
        bad("law", "+1", 1, 0);
        bad("law", "1-", 1, 2);
        bad("law", "1--1", 1, 2);
        bad("law", "1*/1", 1, 2);
        bad("law", "1&1", 1, 1);
        bad("law", "1'1", 1, 1);
        bad("law", "1.1", 1, 1);
        bad("law", "Part", 1, 0);
        bad("law", "again", 1, 0);
        bad("law", "turn", 1, 0);
        bad("law", "wall", 1, 0);
    }

    /** Of a longer law nothing is left in a shorter one, be it read or the one without a text. */
    private static void latestLaw() {
        String[] laws = {"1+2*3-4*5%6", "least[1,2]*most[3,(4)]", "4+5", "7", "1+2*(3+4*5)", "8-2", "part+1+2*3*bend", "9", "3*3"};
        int[] due = {5, 4, 9, 7, 47, 6, 6 * 9 + 6 + 1, 9, 9};
        PartedFellows x = Check.with("wall 99;");
        for (int i = 0; i < laws.length; i++) {
            for (int j = 0; j < laws.length; j++) {
                Check.law(x, laws[i]);
                Check.law(x, laws[j]);
                check.same(laws[j] + " behind " + laws[i], due[j], x.would(6, 0, 9, 0, 0, 0, 0, 0));
            }
            Check.college(x, "wall 99;");
            check.same("no law behind " + laws[i], 63, x.would(6, 0, 9, 0, 0, 0, 0, 0));
        }
    }

    // "a 7th of ( least most again that is open at one time"; "of one the least"
    private static void openAtOneTime() {
        String[] opens = {"(", "least[", "most[", "least[1,", "most[1,"};
        String[] shuts = {")", ",1]", ",9]", "]", "]"};
        for (int i = 0; i < opens.length; i++) {
            check.same("six " + opens[i], 1, Check.law(new PartedFellows(), opens[i].repeat(6) + "5" + shuts[i].repeat(6)));
            for (String seventh : opens) {
                bad("law", opens[i].repeat(6) + seventh + "5", 3, 6 * opens[i].length());
                bad("law", opens[i].repeat(6) + "2*" + seventh, 3, 6 * opens[i].length() + 2);
            }
            bad("law", opens[i].repeat(6) + "5" + shuts[i].repeat(5), 1,
                    6 * opens[i].length() + 1 + 5 * shuts[i].length());
            bad("law", opens[i].repeat(6) + "  least", 3, 6 * opens[i].length() + 2);
            bad("law", opens[i].repeat(6) + "leas", 1, 6 * opens[i].length());
            bad("law", opens[i].repeat(6) + "[", 1, 6 * opens[i].length());
            bad("law", opens[i].repeat(6) + "1000", 2, 6 * opens[i].length());
        }
        check.same("what was shut is not open", 12, turn("", "(1)+".repeat(11) + "(1)"));
        check.same("six in both", 1, turn("", "least[(((((1))))),(((((2)))))]"));
        bad("law", "least[((((((1", 3, 11);
        bad("law", "least[1,((((((1", 3, 13);
        bad("law", "((((((1))))))+(((((((1", 3, 20);
        check.same("six, then six", 3, turn("", "((((((1))))))+((((((2))))))"));
    }

    // "WORK is a text of up to 150 bytes: { STEP ";" }"
    private static void workLength() {
        check.same("37 days", 39, good("work", "day;".repeat(37) + "  ", 37).told(3));
        good("work", blanks(150), 0);
        good("work", "", 0);
        good("work", blanks(146) + "day;", 1);
        bad("work", blanks(147) + "day", 1, 150);
        bad("work", "day;".repeat(37) + "da", 1, 148);
        bad("work", "day;".repeat(37) + " ;", 1, 149);
        bad("work", "day", 1, 3);
        bad("work", "day day;", 1, 4);
        bad("work", "day 1;", 1, 4);
        bad("work", ";", 1, 0);
        bad("work", "day;;", 1, 4);
        bad("work", "days;", 1, 0);
        bad("work", "da;", 1, 0);
        bad("work", "Day;", 1, 0);
        bad("work", "fellow 0 0 0 0 0 0 0;", 1, 0);
        bad("work", "least;", 1, 0);
    }

    // "part" F G, "join" F G, "take" F C N (C 0 to 6, N 1 to 40), "give" F C N (likewise), "swap" F F C
    private static void workNumbers() {
        for (String word : new String[] {"part", "join"}) {
            good("work", word + " 1 2;", word.equals("part") ? 1 : 0);
            bad("work", word + " 2 0;", 2, 5);
            bad("work", word + " 0 3;", 2, 7);
            bad("work", word + " 0;", 1, 6);
            bad("work", word + " 0 0 0;", 1, 9);
            bad("work", word + ";", 1, 4);
            bad("work", word, 1, 4);
        }
        for (String word : new String[] {"take", "give"}) {
            good("work", word + " 1 6 1;", word.equals("take") ? 1 : 0);
            good("work", word + " 0 0 40;", 0);
            bad("work", word + " 2 0 1;", 2, 5);
            bad("work", word + " 0 7 1;", 2, 7);
            bad("work", word + " 0 0 0;", 2, 9);
            bad("work", word + " 0 0 41;", 2, 9);
            bad("work", word + " 0 0;", 1, 8);
            bad("work", word + " 0 0 1 1;", 1, 11);
        }
        PartedFellows x = good("work", "swap 0 1 6;", 1);
        check.same("violet", 2, x.part(0, 6, 0));
        good("work", "swap 1 1 0;", 0);
        bad("work", "swap 2 0 0;", 2, 5);
        bad("work", "swap 0 2 0;", 2, 7);
        bad("work", "swap 0 1 7;", 2, 9);
        bad("work", "swap 0 1;", 1, 8);
        bad("work", "swap 0 1 0 1;", 1, 11);
        // the steps ahead of a fault are not done
        bad("work", "day;take 1 0 1;swap 0 1 7;", 2, 24);
    }

    private static void workWithoutAny() {
        PartedFellows none = new PartedFellows();
        check.same("no fellow", -8, Check.work(none, "take 0 0 1;"));
        check.same("at the fellow", 5, none.fault());
        check.same("a day", 1, Check.work(none, "day;"));
        PartedFellows alone = Check.with("fellow 1 1 1 1 1 1 1;");
        check.same("no glass", -8, Check.work(alone, "part 0 0;"));
        check.same("at the glass", 7, alone.fault());
        check.same("take", 1, Check.work(alone, "take 0 0 1;"));
        PartedFellows full = Check.with(NOTHING.repeat(6) + "glass 1 0;".repeat(8));
        check.same("the last fellow and glass", 0, Check.work(full, "part 5 7;"));
        check.same("read, but refused", 1, full.told(10));
        check.same("one fellow more", -8, Check.work(full, "part 6 7;"));
        check.same("one glass more", -8, Check.work(full, "part 5 8;"));
        check.same("place", 7, full.fault());
    }

    // "again" N "[" { STEP ";" } "]" (N 0 to 40)
    private static void agains() {
        check.same("0", 2, good("work", "again 0[day;];", 0).told(3));
        check.same("1", 3, good("work", "again 1[day;];", 1).told(3));
        check.same("40", 42, good("work", "again 40[day;];", 40).told(3));
        good("work", "again 40[];", 0);
        good("work", " again 3 [ day ; again 2 [ day ; ] ; ] ; ", 9);
        good("work", "again3[day;];", 3);
        bad("work", "again 41[];", 2, 6);
        bad("work", "again[];", 1, 5);
        bad("work", "again 1 [ day ];", 1, 14);
        bad("work", "again 1[;];", 1, 8);
        bad("work", "again 1[day;]", 1, 13);
        bad("work", "again 1[day;", 1, 12);
        bad("work", "again 1[", 1, 8);
        bad("work", "again 1", 1, 7);
        bad("work", "again 1(day;);", 1, 7);
        bad("work", "again 1[day;);", 1, 12);
        bad("work", "again 0[days;];", 1, 8);
        bad("work", "again 0[part 2 0;];", 2, 13);
        bad("work", "day;];", 1, 4);
        good("work", "again 1[".repeat(6) + "day;" + "];".repeat(6), 1);
        bad("work", "again 1[".repeat(6) + "again 1[day;];" + "];".repeat(6), 3, 48);
        bad("work", "again 0[".repeat(6) + "day; again", 3, 53);
        bad("work", "again 0[".repeat(6) + "agai", 1, 48);
        bad("work", "again 0[".repeat(6) + "day;" + "];".repeat(5), 1, 62);
        good("work", "again 1[day;];".repeat(10), 10);
        good("work", "again 1[again 1[again 1[again 1[again 1[again 1[day;];];];];];again 1[day;];];", 2);
    }

    // "-20 ahead of that (nothing is read, there is no FAULT, the TAPE is empty then): 16 WORKS are there"
    private static void sixteenWorks() {
        PartedFellows x = base();
        Check.work(x, "x");
        for (int i = 2; i < 15; i++) {
            check.same("a work without steps", 0, x.work(0));
        }
        check.same("a work with a fault is none", -9, Check.work(x, "day"));
        check.same("works", 15, x.count(2));
        check.same("the 16th, all refused", 0, Check.work(x, "give 1 6 9;take 0 0 1;"));
        check.same("works", 16, x.count(2));
        Check.book(x, "9");
        check.same("a fault of a book", 1, x.fault());
        String seen = Sight.of(x);
        check.same("the 17th", -20, Check.work(x, "day;"));
        check.same("there is no fault", -1, x.fault());
        check.same("the tape is empty then", 0, x.count(1));
        check.same("the 17th, with a fault in it", -20, Check.work(x, "day"));
        check.same("nothing is read, there is no fault", -1, x.fault());
        check.same("an empty 17th", -20, x.work(0));
        Check.feed(x, "day;");
        check.illegal("a 17th of no such length", x, () -> x.work(21));
        check.same("the tape stays", 20, x.count(1));
        check.same("it is emptied", -20, x.work(20));
        check.alike("all stays, the refused steps of the 16th, too", seen, Sight.of(x));
        check.same("undo", 15, x.undo());
        check.same("there is room for one", 1, Check.work(x, "day;"));
        check.same("no more", -20, Check.work(x, "day;"));
    }

    // "A BOOK is one of up to 60 bytes"
    private static void bookLength() {
        good("book", "0 1;" + blanks(52) + "0 1;", 2);
        good("book", blanks(60), 0);
        good("book", "", 0);
        bad("book", blanks(57) + "0 1", 1, 60);
        bad("book", blanks(58) + "0 ", 1, 60);
        bad("book", "0 1" + blanks(57), 1, 60);
        bad("book", "0", 1, 1);
        bad("book", ";", 1, 0);
        bad("book", "0 1;;", 1, 4);
        bad("book", "0 1,", 1, 3);
        bad("book", "0 1 2;", 1, 4);
        bad("book", "0;", 1, 1);
        bad("book", "day;", 1, 0);
    }

    // "at PLACE P (0 to W less 1) there is N (0 to 400)"
    private static void bookNumbers() {
        good("book", "0 0;", 1);
        good("book", "39 400;", 1);
        good("book", "00039 0000400;", 1);
        bad("book", "40 0;", 2, 0);
        bad("book", "0 401;", 2, 2);
        bad("book", "0 0;39 0; 40 0;", 2, 10);
        for (int w : new int[] {10, 60, 99}) {
            PartedFellows x = Check.with(w == 60 ? "" : "wall " + w + ";");
            check.same("the last place", 1, Check.book(x, w - 1 + " 0;"));
            check.same("one behind it", -8, Check.book(x, w + " 0;"));
            check.same("one line is there", 1, x.told(9));
        }
    }

    // "8 lines at most"; "a line too many (at its P)"
    private static void bookLines() {
        check.same("eight", 8, good("book", "0 1;1 1;2 1;3 1;4 1;5 1;6 1;7 1;", 8).told(9));
        check.same("eight of one place", 8, good("book", "9 1;".repeat(8), 8).told(9));
        good("book", "9 1;".repeat(8) + blanks(28), 8);
        bad("book", "9 1;".repeat(9), 3, 32);
        bad("book", "9 1;".repeat(8) + "   9", 3, 35);
        bad("book", "9 1;".repeat(8) + "39 401;", 3, 32);
        bad("book", "9 1;".repeat(8) + "40 1;", 2, 32);
        bad("book", "9 1;".repeat(8) + "x", 1, 32);
        bad("book", "9 1;".repeat(8) + ";", 1, 32);
        bad("book", "9 1;".repeat(7) + "9 401;9 1;", 2, 30);
    }

    // "The place of the FAULT of the latest text; NONE without."
    private static void latestFault() {
        PartedFellows x = base();
        check.same("NONE", -1, x.fault());
        String[] names = {"college", "law", "work", "book"};
        String[] wrong = {"wall 10;x", "1+", "day;day;x", "0 "};
        String[] right = {"wall 10;", "1", "day;", "0 1;"};
        int[] places = {8, 2, 8, 2};
        for (int i = 0; i < 4; i++) {
            for (int j = 0; j < 4; j++) {
                tell(x, names[i], wrong[i]);
                check.same("the latest", places[i], x.fault());
                x.undo();
                x.image();
                x.restore();
                x.told(3);
                check.same("it stays", places[i], x.fault());
                tell(x, names[j], right[j]);
                check.same("NONE without", -1, x.fault());
            }
        }
    }

    // "The first n bytes of the TAPE (empty then) are the COLLEGE (no LAW, BOOK, IMAGES, nothing to undo)"; "It is DAY 0
    // at first, all PARTS are within their FELLOWS, nothing lies on the wall, nothing is taken, nobody was parted."
    private static void newCollege() {
        String again = "fellow 5 5 5 5 5 5 5;fellow 10 0 3 0 7 1 2;glass 2 0;glass 2 1;glass 5 0;wall 40;";
        PartedFellows x = base();
        check.same("of all that counts something is there", 1,
                x.told(3) * x.told(7) * x.told(8) * x.told(9) * x.told(10) * x.told(11) * x.count(0) * x.count(2) > 0 ? 1 : 0);
        check.same("the same college anew", 2, Check.college(x, again));
        check.alike("all is as in a new object", Sight.of(Check.with(again)), Sight.of(x));
        check.same("no image", -1, x.restore());
        check.same("nothing to undo", -1, x.undo());
        PartedFellows y = base();
        check.same("an empty college", 0, y.college(0));
        check.alike("all is as in a new object", Sight.of(new PartedFellows()), Sight.of(y));
        check.same("two fellows more", 2, Check.college(y, again));
        check.alike("all is as in a new object", Sight.of(Check.with(again)), Sight.of(y));
        PartedFellows z = Check.with("fellow 9 9 9 9 9 9 9;".repeat(6) + "glass 9 0;".repeat(8));
        check.same("fewer fellows", 1, Check.college(z, "fellow 1 0 0 0 0 0 0;"));
        check.same("nobody else has anything", 1, z.told(6));
        check.same("no glasses", 0, z.told(1));
        Check.feed(z, "wall 10;wall 20; and what no college has");
        check.same("the first n bytes alone", 0, z.college(8));
        check.same("W", 10, z.told(2));
        check.same("the rest is gone, too", 0, z.count(1));
    }
}
