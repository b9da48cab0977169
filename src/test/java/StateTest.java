/** Promises 9 to 15: what there is now, turns, and turns that would be. */
public final class StateTest {
    private static final Check check = new Check("StateTest");
    private static final String COLLEGE =
            "fellow 5 5 5 5 5 5 5;fellow 10 0 3 0 7 1 2;glass 2 0;glass 3 1;glass 5 0;wall 40;";

    public static void main(String[] args) {
        told();
        fellow();
        part();
        glass();
        place();
        turn();
        would();
        check.end();
    }

    private static PartedFellows worked() {
        PartedFellows x = Check.with(COLLEGE);
        Check.work(x, "take 1 4 3;part 1 2;day;take 0 0 9;swap 0 0 0;");
        return x;
    }

    private static void told() {
        PartedFellows x = worked();
        Check.book(x, "1 2;");
        // of the second fellow 10 0 3 0 4 1 2 lie there, each 1 less by the day
        int[] due = {2, 3, 40, 1, 1, 2, 35, 15, 3, 1, 2, 1};
        for (int what = 0; what < due.length; what++) {
            check.same("told(" + what + ")", due[what], x.told(what));
        }
        check.illegal("told(12)", x, () -> x.told(12));
        check.illegal("told(-1)", x, () -> x.told(-1));
        Check.work(x, "days");
        check.same("a text with a fault is no work", 2, x.told(10));
        check.same("no image, nothing changes", -1, x.restore());
        check.same("refused by the latest work", 2, x.told(10));
        x.image();
        x.restore();
        check.same("0 behind restore()", 0, x.told(10));
        PartedFellows y = Check.with("fellow 0 0 0 0 0 0 0;fellow 1 1 1 1 1 1 1;fellow 2 2 2 2 2 2 1;");
        check.same("white needs any", 2, y.told(4));
    }

    private static void fellow() {
        PartedFellows x = worked();
        int[] due = {0, 15, 3, 42, 0, 1, 5, 35};
        for (int what = 0; what < due.length; what++) {
            check.same("fellow(1, " + what + ")", due[what], x.fellow(1, what));
        }
        int[] first = {35, 0, 0, 0, 1, 0, -1, -1};
        for (int what = 0; what < first.length; what++) {
            check.same("fellow(0, " + what + ")", first[what], x.fellow(0, what));
        }
        check.noSuch("fellow(2, 0)", x, () -> x.fellow(2, 0));
        check.noSuch("fellow(-1, 99)", x, () -> x.fellow(-1, 99));
        check.illegal("fellow(0, 8)", x, () -> x.fellow(0, 8));
        check.illegal("fellow(0, -1)", x, () -> x.fellow(0, -1));
        // taken parts are dark, too
        PartedFellows y = Check.with("fellow 1 1 1 1 1 1 1;");
        Check.work(y, "take 0 3 1;");
        check.same("dark", 8, y.fellow(0, 3));
        Check.work(y, "take 0 0 1;take 0 6 1;");
        check.same("the first and the last part are counted", 3, y.told(8));
        check.same("the first and the last part are counted", 3, y.fellow(0, 2));
    }

    private static void part() {
        PartedFellows x = worked();
        check.same("within", 5, x.part(0, 6, 0));
        check.same("on the wall", 9, x.part(1, 0, 1));
        check.same("where", 5, x.part(1, 0, 2));
        check.same("where it was, but is gone", -1, x.part(1, 5, 2));
        check.same("taken", 3, x.part(1, 4, 3));
        check.noSuch("part(2, 9, 9)", x, () -> x.part(2, 9, 9));
        check.illegal("part(0, 7, 0)", x, () -> x.part(0, 7, 0));
        check.illegal("part(0, -1, 0)", x, () -> x.part(0, -1, 0));
        check.illegal("part(0, 0, 4)", x, () -> x.part(0, 0, 4));
        check.illegal("part(0, 0, -1)", x, () -> x.part(0, 0, -1));
    }

    private static void glass() {
        PartedFellows x = worked();
        check.same("bend", 3, x.glass(1, 0));
        check.same("kind", 1, x.glass(1, 1));
        check.same("kind", 0, x.glass(2, 1));
        check.noSuch("glass(3, 9)", x, () -> x.glass(3, 9));
        check.noSuch("glass(-1, 0)", x, () -> x.glass(-1, 0));
        check.illegal("glass(0, 2)", x, () -> x.glass(0, 2));
        check.illegal("glass(0, -1)", x, () -> x.glass(0, -1));
    }

    private static void place() {
        PartedFellows x = worked();
        check.same("place(5)", 9, x.place(5));
        check.same("place(15)", 2, x.place(15));
        check.same("place(0)", 0, x.place(0));
        check.same("place(39)", 0, x.place(39));
        check.illegal("place(40)", x, () -> x.place(40));
        check.illegal("place(-1)", x, () -> x.place(-1));
        // of all fellows together
        Check.law(x, "15");
        Check.work(x, "part 0 0;");
        check.same("place(15)", 37, x.place(15));
    }

    private static void turn() {
        PartedFellows x = worked();
        check.same("by a glass that parts", 10, x.turn(0, 4, 0));
        check.same("by a glass that joins", 15, x.turn(0, 4, 1));
        check.same("no more than the wall", 35, x.turn(0, 6, 2));
        check.noSuch("no such fellow", x, () -> x.turn(2, 9, 9));
        check.noSuch("no such glass ahead of the part", x, () -> x.turn(0, 9, 3));
        check.illegal("no such part", x, () -> x.turn(0, 7, 0));
        Check.law(x, "much+bend*2");
        check.same("much is what is within", 9, x.turn(0, 0, 0));
        check.same("much is what is within, not what lies there", 4, x.turn(1, 0, 0));
        Check.law(x, "all");
        check.same("all", 35, x.turn(0, 0, 0));
        Check.law(x, "taken*10+turns");
        check.same("taken, turns", 31, x.turn(1, 4, 0));
        Check.law(x, "day*10+fellow");
        check.same("day, fellow", 11, x.turn(1, 4, 0));
    }

    private static void would() {
        PartedFellows x = new PartedFellows();
        check.same("the greatest", 56, x.would(6, 400, 8, 2800, 400, 999, 400, 5));
        check.same("the least", 1, x.would(0, 0, 1, 0, 0, 0, 0, 0));
        int[] least = {0, 0, 1, 0, 0, 0, 0, 0};
        int[] most = {6, 400, 9, 2800, 400, 999, 400, 5};
        for (int i = 0; i < 8; i++) {
            int[] a = least.clone();
            a[i] = least[i] - 1;
            check.illegal("would, argument " + i + " too small", x, () -> told(x, a));
            int[] b = least.clone();
            b[i] = most[i] + 1;
            check.illegal("would, argument " + i + " too great", x, () -> told(x, b));
            int[] c = least.clone();
            c[i] = most[i];
            check.same("would, argument " + i + " at most", Math.min(59, (c[0] + 1) * c[2]), told(x, c));
        }
    }

    private static int told(PartedFellows x, int[] a) {
        return x.would(a[0], a[1], a[2], a[3], a[4], a[5], a[6], a[7]);
    }
}
