/** Promises 39 to 42: images, refusals and counts. */
public final class ImageTest {
    private static final Check check = new Check("ImageTest");
    private static final String ONE = "fellow 1 2 3 4 5 6 7;fellow 9 9 9 9 9 9 9;glass 1 0;glass 1 1;";

    public static void main(String[] args) {
        images();
        latestFirst();
        worksInImages();
        sixteenWorks();
        whatNoImageKeeps();
        counts();
        check.end();
    }

    private static void images() {
        PartedFellows x = Check.with(ONE);
        check.same("no image", -1, x.restore());
        for (int i = 1; i <= 3; i++) {
            check.same("image", i, x.image());
        }
        check.same("there are 3", -1, x.image());
        check.same("count(0)", 3, x.count(0));
        check.same("restore", 2, x.restore());
        check.same("image", 3, x.image());
        for (int i = 2; i >= 0; i--) {
            check.same("restore", i, x.restore());
        }
        check.same("none is left", -1, x.restore());
    }

    private static void latestFirst() {
        PartedFellows x = Check.with(ONE);
        x.image();
        Check.work(x, "part 0 0;take 1 3 4;");
        x.image();
        Check.work(x, "day;swap 0 1 0;give 1 3 1;");
        x.image();
        Check.work(x, "day;day;");
        x.restore();
        check.same("day", 1, x.told(3));
        check.same("taken", 3, x.told(8));
        check.same("swapped", 9, x.part(0, 0, 0));
        check.same("wall", 21, x.told(7));
        check.same("works", 2, x.count(2));
        x.restore();
        check.same("day", 0, x.told(3));
        check.same("taken", 4, x.told(8));
        check.same("wall", 28, x.told(7));
        check.same("where", 7, x.fellow(0, 7));
        check.same("parted", 1, x.told(11));
        x.restore();
        check.same("within", 91, x.told(6));
        check.same("wall", 0, x.told(7));
        check.same("taken", 0, x.told(8));
        check.same("parted", 0, x.told(11));
        check.same("works", 0, x.count(2));
    }

    private static void worksInImages() {
        PartedFellows x = Check.with(ONE);
        Check.work(x, "day;");
        Check.work(x, "take 0 6 7;");
        x.image();
        x.undo();
        x.undo();
        Check.work(x, "part 1 0;");
        Check.work(x, "swap 0 1 0;");
        Check.work(x, "day;day;");
        check.same("works", 3, x.count(2));
        x.restore();
        check.same("the works are there again", 2, x.count(2));
        check.same("taken", 7, x.told(8));
        check.same("the latest is undone", 1, x.undo());
        check.same("taken", 0, x.told(8));
        check.same("day", 1, x.told(3));
        check.same("within", 91, x.told(6));
        check.same("the one ahead of it", 0, x.undo());
        check.same("day", 0, x.told(3));
        check.same("nothing was parted", 0, x.told(11));
    }

    private static void sixteenWorks() {
        PartedFellows x = Check.with(ONE);
        for (int i = 0; i < 16; i++) {
            check.same("a day", 1, Check.work(x, "day;"));
        }
        for (int i = 0; i < 3; i++) {
            x.image();
        }
        for (int i = 15; i >= 0; i--) {
            check.same("undo", i, x.undo());
            check.same("day", i, x.told(3));
        }
        check.same("restore", 2, x.restore());
        check.same("16 are there", -20, Check.work(x, "day;"));
        check.same("day", 16, x.told(3));
        check.same("undo", 15, x.undo());
    }

    private static void whatNoImageKeeps() {
        PartedFellows x = Check.with(ONE);
        x.image();
        Check.law(x, "5");
        Check.book(x, "1 1;2 2;");
        Check.feed(x, "abc");
        check.noSuch("fellow(9, 0)", x, () -> x.fellow(9, 0));
        check.illegal("told(99)", x, () -> x.told(99));
        x.restore();
        check.same("the law stays", 5, x.turn(0, 0, 0));
        check.same("the book stays", 2, x.told(9));
        check.same("the tape stays", 20, x.count(1));
        check.same("no such", 1, x.status(0));
        check.same("illegal", 1, x.status(1));
        x.college(0);
        check.same("a college leaves them", 1, x.status(0));
        check.same("a college leaves them", 1, x.status(1));
    }

    private static void counts() {
        PartedFellows x = new PartedFellows();
        for (int what : new int[] {-1, 2, 3, Integer.MAX_VALUE, Integer.MIN_VALUE}) {
            check.same("status(" + what + ")", -1, x.status(what));
        }
        for (int what : new int[] {-1, 3, 4, Integer.MAX_VALUE, Integer.MIN_VALUE}) {
            check.same("count(" + what + ")", -1, x.count(what));
        }
        check.same("these refuse nothing", 0, x.status(0) + x.status(1));
        x.feed(0, 0, 0, 0, 0);
        check.same("bytes", 20, x.count(1));
        x.work(0);
        x.image();
        check.same("images", 1, x.count(0));
        check.same("works", 1, x.count(2));
        check.same("the tape is empty", 0, x.count(1));
    }
}
