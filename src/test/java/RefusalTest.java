import java.lang.reflect.InvocationTargetException;
import java.lang.reflect.Method;
import java.util.Arrays;
import java.util.NoSuchElementException;

/**
 * Refused calls, promises 9 to 38 and the lengths of 3 to 6: of each argument the last one on each side that is
 * answered and the first one that is not, which exception comes, which comes ahead, and that all stays as it was.
 */
public final class RefusalTest {
    private static final Check check = new Check("RefusalTest");
    private static final int ANSWERED = 2;
    private static final int NO_SUCH = 0;
    private static final int ILLEGAL = 1;

    /**
     * What each argument may be: f a fellow, g a glass (NoSuchElementException, ahead of others), p a place, s bits of
     * fellows, e a fellow whose lack is an IllegalArgumentException, * anything, or least and most.
     */
    private static final String[] FORMS = {
        "told 0:11", "fellow f 0:7", "part f 0:6 0:3", "glass g 0:1", "place p", "turn f 0:6 g",
        "would 0:6 0:400 1:9 0:2800 0:400 0:999 0:400 0:5", "ahead 0:99 0:1", "spread s", "bow 0:1", "through f 0:6 p",
        "serves 0:6 0:400", "fits 0:1", "look 0:1", "swings f 0:6 1:2800", "power f 0:6 1:2800 0:1",
        "green 0:12 0:16 0:1", "lookers 0:99 0:99 0:2", "light f s 0:2800", "broadest 0:1", "strongest f 0:1",
        "joins f g", "blurs f", "lacks f 0:6", "mates f", "first f", "halo p 0:99", "term * 0:16 1:48 0:3",
        "span * 1:10 0:16 1:48 0:2 e"};
    private static final String NEVER = "feed/5 fault/0 undo/0 lit/0 image/0 restore/0 status/1 count/1";
    private static final String[] TEXTS = {"college", "law", "work", "book"};

    /** Colleges without any, with one of each, with three, and full ones. */
    private static final String[] COLLEGES = {
        "", "fellow 1 1 1 1 1 1 1;", "glass 1 0;wall 11;", "fellow 3 0 0 2 0 0 1;glass 3 0;wall 10;",
        "fellow 5 5 5 5 5 5 5;fellow 10 0 3 0 7 1 2;fellow 0 40 9 8 7 6 5;glass 2 0;glass 2 1;glass 5 0;wall 40;",
        "fellow 4 4 4 4 4 4 4;".repeat(6) + "glass 2 0;".repeat(4) + "glass 2 1;".repeat(4) + "wall 99;"};

    private static int fellows;
    private static int glasses;
    private static int places;
    private static String college;

    public static void main(String[] args) throws Exception {
        check.same("calls in all", 41, FORMS.length + NEVER.split(" ").length + TEXTS.length);
        for (String text : COLLEGES) {
            college = text;
            PartedFellows x = made();
            fellows = x.told(0);
            glasses = x.told(1);
            places = x.told(2);
            for (String form : FORMS) {
                ends(form.split(" "));
                beyond(form.split(" "));
                two(form.split(" "));
            }
        }
        never();
        lengths();
        counted();
        check.end();
    }

    /** An object with something of all that a refused call could spoil. */
    private static PartedFellows made() {
        PartedFellows x = Check.with(college);
        Check.law(x, "part+bend+much");
        Check.book(x, "1 0;");
        if (x.told(0) > 0 && x.told(1) > 0) {
            Check.work(x, "part 0 0;day;take 0 0 40;");
            x.image();
            Check.work(x, "give 0 0 1;day;join 0 0;");
        }
        Check.law(x, "part*2+bend*");
        Check.feed(x, "rubbish");
        return x;
    }

    private static int least(String form) {
        return form.contains(":") ? Integer.parseInt(form.split(":")[0]) : form.equals("*") ? Integer.MIN_VALUE : 0;
    }

    private static int most(String form) {
        switch (form) {
            case "f":
            case "e": return fellows - 1;
            case "g": return glasses - 1;
            case "p": return places - 1;
            case "s": return (1 << fellows) - 1;
            case "*": return Integer.MAX_VALUE;
            default: return Integer.parseInt(form.split(":")[1]);
        }
    }

    private static int[] base(String[] form) {
        int[] args = new int[form.length - 1];
        for (int i = 0; i < args.length; i++) {
            args[i] = least(form[i + 1]);
        }
        return args;
    }

    private static int due(String[] form, int[] args) {
        int reason = ANSWERED;
        for (int i = 0; i < args.length; i++) {
            String kind = form[i + 1];
            if (args[i] < least(kind) || args[i] > most(kind)) {
                reason = Math.min(reason, kind.equals("f") || kind.equals("g") ? NO_SUCH : ILLEGAL);
            }
        }
        return reason;
    }

    private static int[] bad(String kind) {
        if (kind.equals("*")) {
            return new int[0];
        }
        return new int[] {least(kind) - 1, most(kind) + 1, Integer.MIN_VALUE, Integer.MAX_VALUE};
    }

    private static void ends(String[] form) throws Exception {
        for (int i = 0; i < form.length - 1; i++) {
            for (int end = 0; end < 2; end++) {
                int[] args = base(form);
                args[i] = end == 0 ? least(form[i + 1]) : most(form[i + 1]);
                made(form, args);
            }
        }
        int[] args = base(form);
        for (int i = 0; i < args.length; i++) {
            args[i] = most(form[i + 1]);
        }
        made(form, args);
    }

    private static void beyond(String[] form) throws Exception {
        for (int i = 0; i < form.length - 1; i++) {
            for (int value : bad(form[i + 1])) {
                int[] args = base(form);
                args[i] = value;
                made(form, args);
            }
        }
    }

    private static void two(String[] form) throws Exception {
        for (int i = 0; i < form.length - 1; i++) {
            for (int j = 0; j < i; j++) {
                if (bad(form[i + 1]).length > 0 && bad(form[j + 1]).length > 0) {
                    int[] args = base(form);
                    args[i] = bad(form[i + 1])[1];
                    args[j] = bad(form[j + 1])[0];
                    made(form, args);
                }
            }
        }
    }

    private static String call(String name, int[] args) {
        return name + Arrays.toString(args) + " with college " + college;
    }

    private static int thrown(PartedFellows x, String name, int[] args) throws Exception {
        Class<?>[] types = new Class<?>[args.length];
        Arrays.fill(types, int.class);
        Object[] boxed = new Object[args.length];
        for (int i = 0; i < args.length; i++) {
            boxed[i] = args[i];
        }
        Method m = PartedFellows.class.getMethod(name, types);
        try {
            m.invoke(x, boxed);
            return ANSWERED;
        } catch (InvocationTargetException e) {
            Class<?> c = e.getCause().getClass();
            return c == NoSuchElementException.class ? NO_SUCH : c == IllegalArgumentException.class ? ILLEGAL : 9;
        }
    }

    /** The call answers or throws as is due, is counted by its reason, and all stays. */
    private static void made(String[] form, int[] args) throws Exception {
        String name = form[0];
        int due = due(form, args);
        PartedFellows x = made();
        int reason = thrown(x, name, args);
        check.same(call(name, args) + " throws (0 NoSuchElementException, 1 IllegalArgumentException, 2 nothing)", due, reason);
        check.same(call(name, args) + ": status(0)", due == NO_SUCH ? 1 : 0, x.status(0));
        check.same(call(name, args) + ": status(1)", due == ILLEGAL ? 1 : 0, x.status(1));
        PartedFellows twin = made();
        check.alike(call(name, args), Sight.ofTape(twin) + Sight.of(twin), Sight.ofTape(x) + Sight.of(x));
        check.alike(call(name, args), Sight.behind(twin), Sight.behind(x));
    }

    private static void never() throws Exception {
        int[] odd = {-1, 0, 1, 2, 3, Integer.MIN_VALUE, Integer.MAX_VALUE};
        for (String text : COLLEGES) {
            PartedFellows x = Check.with(text);
            for (String form : NEVER.split(" ")) {
                String name = form.split("/")[0];
                for (int value : odd) {
                    int[] args = new int[Integer.parseInt(form.split("/")[1])];
                    Arrays.fill(args, value);
                    check.same(call(name, args) + " never throws", ANSWERED, thrown(x, name, args));
                }
            }
            check.same("nothing was refused", 0, x.status(0) + x.status(1));
        }
    }

    private static PartedFellows fed(int feeds) {
        college = COLLEGES[4];
        PartedFellows x = made();
        x.law(0);
        Check.book(x, "1 ");
        for (int i = 0; i < feeds; i++) {
            Check.feed(x, " ".repeat(20));
        }
        return x;
    }

    /** n is 0 to the tape's bytes, and no more than the text may have; a refused text leaves the tape and the fault. */
    private static void lengths() throws Exception {
        int[] longest = {600, 150, 150, 60};
        for (int i = 0; i < 4; i++) {
            for (int feeds : new int[] {0, 1, 3, 4, 7, 8, 30}) {
                int most = Math.min(20 * feeds, longest[i]);
                for (int n : new int[] {-1, most + 1, 20 * feeds + 1, Integer.MIN_VALUE, Integer.MAX_VALUE}) {
                    PartedFellows x = fed(feeds);
                    check.same(call(TEXTS[i], new int[] {n}) + " is refused", ILLEGAL, thrown(x, TEXTS[i], new int[] {n}));
                    check.same("status(1)", 1, x.status(1));
                    check.same("the tape stays", 20 * feeds, x.count(1));
                    check.same("no text was read: the fault of the latest one stays", 2, x.fault());
                    PartedFellows twin = fed(feeds);
                    check.alike("all stays", Sight.of(twin), Sight.of(x));
                    check.alike("all stays", Sight.behind(twin), Sight.behind(x));
                }
                for (int n : new int[] {0, most}) {
                    PartedFellows x = fed(feeds);
                    check.same(call(TEXTS[i], new int[] {n}) + " is taken", ANSWERED, thrown(x, TEXTS[i], new int[] {n}));
                    check.same("the tape is empty then", 0, x.count(1));
                    check.same("the fault: none, but a law must not be empty", i == 1 ? n : -1, x.fault());
                }
            }
        }
        PartedFellows x = new PartedFellows();
        Check.feed(x, "wall 77;");
        check.same("refused", ILLEGAL, thrown(x, "book", new int[] {21}));
        check.same("its bytes stay, too", 0, x.college(8));
        check.same("W", 77, x.told(2));
    }

    /** Both reasons are counted by themselves, and stay through all that changes the rest. */
    private static void counted() throws Exception {
        college = COLLEGES[4];
        PartedFellows x = made();
        for (int i = 1; i <= 40; i++) {
            thrown(x, "fellow", new int[] {3, 99});
            thrown(x, "told", new int[] {12});
            thrown(x, "law", new int[] {-1});
            check.same("status(0)", i, x.status(0));
            check.same("status(1)", 2 * i, x.status(1));
        }
        x.restore();
        x.undo();
        Check.college(x, "wall 9;");
        x.college(0);
        check.same("status(0) stays", 40, x.status(0));
        check.same("status(1) stays", 80, x.status(1));
    }
}
