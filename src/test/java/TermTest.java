/** Promises 37 and 38: terms by seeds. */
public final class TermTest {
    private static final Check check = new Check("TermTest");
    private static final String TWO = "fellow 5 5 5 5 5 5 5;fellow 3 3 3 3 3 3 3;glass 1 0;";

    public static void main(String[] args) {
        parting();
        joining();
        withoutAny();
        laterThanTheLastDay();
        termArguments();
        span();
        check.end();
    }

    // Seed 1 draws 16838, 5758, 10113, 17515, 31051, 5627, 23010, 7419, ..
    private static void parting() {
        PartedFellows x = Check.with(TWO);
        int[] kept = {21, 28, 1, 2};
        int[] lost = {20, 28, 1, 0};
        int[] twice = {0, 35, 2, 0};
        for (int what = 0; what < 4; what++) {
            check.same("one day, 1 is not below 1: " + what, kept[what], x.term(1, 1, 1, what));
            check.same("one day, 1 is below 2: " + what, lost[what], x.term(1, 2, 1, what));
            check.same("two days: " + what, twice[what], x.term(1, 1, 2, what));
        }
        check.same("the day stays", 0, x.told(3));
        check.same("within stays", 56, x.told(6));
        Check.work(x, "part 0 0;");
        check.same("parted in it, not by now", 0, x.term(1, 0, 1, 2));
    }

    private static void joining() {
        PartedFellows x = Check.with("fellow 5 5 5 5 5 5 5;glass 1 0;glass 1 1;");
        check.same("parted, then joined", 28, x.term(1, 0, 2, 0));
        check.same("nothing lies there", 0, x.term(1, 0, 2, 1));
        check.same("parted once", 1, x.term(1, 0, 2, 2));
        check.same("white", 1, x.term(1, 0, 2, 3));
    }

    private static void withoutAny() {
        PartedFellows x = Check.with("fellow 5 5 5 5 5 5 5;");
        check.same("no glasses: nothing is drawn", 35, x.term(1, 16, 48, 0));
        PartedFellows y = Check.with("glass 1 0;");
        check.same("no fellows", 0, y.term(1, 16, 48, 0));
        check.same("no fellows", 0, y.term(1, 16, 48, 3));
        check.same("an empty college", 0, new PartedFellows().term(-7, 0, 1, 1));
    }

    private static void laterThanTheLastDay() {
        PartedFellows x = Check.with("fellow 40 40 40 40 40 40 40;glass 1 0;");
        Check.work(x, "again 40[day;day;day;day;day;];");
        Check.work(x, "again 40[day;day;day;day;day;];");
        Check.work(x, "day;day;");
        check.same("the last day", 400, x.told(3));
        check.same("days go by all the same", 7 * 30, x.term(1, 0, 10, 1));
        Check.work(x, "part 0 0;");
        check.same("ahead, too", 7 * 30, x.ahead(10, 0));
    }

    private static void termArguments() {
        PartedFellows x = Check.with(TWO);
        check.illegal("q", x, () -> x.term(1, 17, 1, 0));
        check.illegal("q", x, () -> x.term(1, -1, 1, 0));
        check.illegal("days", x, () -> x.term(1, 0, 49, 0));
        check.illegal("days", x, () -> x.term(1, 0, 0, 0));
        check.illegal("what", x, () -> x.term(1, 0, 1, 4));
        check.illegal("what", x, () -> x.term(1, 0, 1, -1));
    }

    private static void span() {
        PartedFellows x = Check.with(TWO + "glass 2 0;glass 1 1;");
        int[] seeds = {1, Integer.MAX_VALUE - 3, -5};
        for (int seed : seeds) {
            int least = Integer.MAX_VALUE;
            int most = Integer.MIN_VALUE;
            for (int i = 0; i < 10; i++) {
                int much = x.term(seed + i, 9, 7, 0);
                least = Math.min(least, much);
                most = Math.max(most, much);
            }
            check.same("the least", least, x.span(seed, 10, 9, 7, 0, 0));
            check.same("the most", most, x.span(seed, 10, 9, 7, 1, 1));
        }
        PartedFellows y = Check.with(TWO);
        // by seed 1 the first fellow is parted, the second one is not
        check.same("the parted one", 0, y.span(1, 1, 0, 1, 2, 0));
        check.same("the other one", 1, y.span(1, 1, 0, 1, 2, 1));
        int sum = y.span(1, 10, 0, 1, 2, 0) + y.span(1, 10, 0, 1, 2, 1);
        check.same("each day one of two", 10, sum);
        check.illegal("many", y, () -> y.span(1, 0, 0, 1, 0, 0));
        check.illegal("many", y, () -> y.span(1, 11, 0, 1, 0, 0));
        check.illegal("q", y, () -> y.span(1, 1, 17, 1, 0, 0));
        check.illegal("days", y, () -> y.span(1, 1, 0, 49, 0, 0));
        check.illegal("what", y, () -> y.span(1, 1, 0, 1, 3, 0));
        check.illegal("what", y, () -> y.span(1, 1, 0, 1, -1, 0));
        check.illegal("no such fellow, for 0, too", y, () -> y.span(1, 1, 0, 1, 0, 2));
        check.illegal("no such fellow, for 1, too", y, () -> y.span(1, 1, 0, 1, 1, -1));
        check.illegal("no such fellow", y, () -> y.span(1, 1, 0, 1, 2, 2));
    }
}
