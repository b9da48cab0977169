import java.util.NoSuchElementException;

/** Counts answers that are not the ones that are due, and tells texts to an object. */
final class Check {
    interface Call {
        long answer();
    }

    private final String name;
    private int made;
    private int wrong;

    Check(String name) {
        this.name = name;
    }

    void same(String call, long want, long got) {
        made++;
        if (got != want) {
            wrong++;
            System.out.println(name + ": " + call + " answered " + got + ", due is " + want);
        }
    }

    void alike(String call, String want, String got) {
        made++;
        if (!got.equals(want)) {
            wrong++;
            System.out.println(name + ": " + call + ": seen is\n  " + got + "\ndue is\n  " + want);
        }
    }

    /** The call must throw, and be counted as refused by that reason alone. */
    void illegal(String call, PartedFellows x, Call c) {
        refused(call, x, c, 1);
    }

    void noSuch(String call, PartedFellows x, Call c) {
        refused(call, x, c, 0);
    }

    private void refused(String call, PartedFellows x, Call c, int reason) {
        int before = x.status(reason);
        int others = x.status(1 - reason);
        int thrown = 2;
        try {
            c.answer();
        } catch (NoSuchElementException e) {
            thrown = 0;
        } catch (IllegalArgumentException e) {
            thrown = 1;
        }
        same(call + " throws (0 NoSuchElementException, 1 IllegalArgumentException, 2 nothing)", reason, thrown);
        same(call + ": calls refused so", before + 1, x.status(reason));
        same(call + ": calls refused for the other reason", others, x.status(1 - reason));
    }

    void end() {
        System.out.println(name + ": " + made + " answers, " + wrong + " not as due");
        if (wrong != 0 || made == 0) {
            System.exit(1);
        }
    }

    /** Feeds a text, with zeros behind it; answers its length. */
    static int feed(PartedFellows x, String text) {
        for (int from = 0; from < text.length(); from += 20) {
            int[] five = new int[5];
            for (int i = 0; i < 20; i++) {
                int b = from + i < text.length() ? text.charAt(from + i) & 255 : 0;
                five[i / 4] = five[i / 4] << 8 | b;
            }
            x.feed(five[0], five[1], five[2], five[3], five[4]);
        }
        return text.length();
    }

    static int college(PartedFellows x, String text) {
        return x.college(feed(x, text));
    }

    static int law(PartedFellows x, String text) {
        return x.law(feed(x, text));
    }

    static int work(PartedFellows x, String text) {
        return x.work(feed(x, text));
    }

    static int book(PartedFellows x, String text) {
        return x.book(feed(x, text));
    }

    static PartedFellows with(String text) {
        PartedFellows x = new PartedFellows();
        college(x, text);
        return x;
    }
}
