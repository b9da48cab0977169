import java.lang.reflect.InvocationTargetException;
import java.lang.reflect.Method;
import java.util.ArrayList;
import java.util.LinkedHashMap;
import java.util.List;
import java.util.Map;
import java.util.Random;
import java.util.TreeMap;

/** Promises 1 to 42, by long runs of calls drawn by fixed seeds: each answer is compared with the slow model's. */
public final class ModelTest {
    private static final int RUNS = 2500;
    private static final int CALLS = 512;

    /** Of each argument the least and the most that is likely to be taken. */
    private static final Map<String, int[]> RANGES = new LinkedHashMap<>();

    static {
        range("fault");
        range("undo");
        range("told", 0, 11);
        range("fellow", 0, 5, 0, 7);
        range("part", 0, 5, 0, 6, 0, 3);
        range("glass", 0, 7, 0, 1);
        range("place", 0, 60);
        range("turn", 0, 5, 0, 6, 0, 7);
        range("would", 0, 6, 0, 400, 1, 9, 0, 2800, 0, 400, 0, 999, 0, 400, 0, 5);
        range("ahead", 0, 99, 0, 1);
        range("spread", 0, 63);
        range("bow", 0, 1);
        range("through", 0, 5, 0, 6, 0, 60);
        range("serves", 0, 6, 0, 400);
        range("fits", 0, 1);
        range("look", 0, 1);
        range("swings", 0, 5, 0, 6, 1, 200);
        range("power", 0, 5, 0, 6, 1, 200, 0, 1);
        range("green", 0, 12, 0, 16, 0, 1);
        range("lookers", 0, 99, 0, 99, 0, 2);
        range("light", 0, 5, 0, 63, 0, 600);
        range("broadest", 0, 1);
        range("strongest", 0, 5, 0, 1);
        range("joins", 0, 5, 0, 7);
        range("blurs", 0, 5);
        range("lit");
        range("lacks", 0, 5, 0, 6);
        range("mates", 0, 5);
        range("first", 0, 5);
        range("halo", 0, 60, 0, 99);
        range("term", -9, 9999, 0, 16, 1, 48, 0, 3);
        range("span", -9, 9999, 1, 10, 0, 16, 1, 48, 0, 2, 0, 5);
        range("image");
        range("restore");
        range("status", 0, 1);
        range("count", 0, 2);
    }

    private final Random random;
    private final PartedFellows real = new PartedFellows();
    private final Model model = new Model();
    private final List<String> log = new ArrayList<>();
    private static final Map<String, Method> REALS = new TreeMap<>();
    private static final Map<String, Method> MODELS = new TreeMap<>();
    private static final Map<String, Integer> ANSWERED = new TreeMap<>();
    private int calls;

    private ModelTest(long seed) {
        random = new Random(seed);
    }

    private static void range(String name, int... bounds) {
        RANGES.put(name, bounds);
    }

    public static void main(String[] args) throws Exception {
        for (Method m : PartedFellows.class.getDeclaredMethods()) {
            if (java.lang.reflect.Modifier.isPublic(m.getModifiers())) {
                REALS.put(m.getName(), m);
                MODELS.put(m.getName(), Model.class.getMethod(m.getName(), m.getParameterTypes()));
            }
        }
        int runs = args.length > 0 ? Integer.parseInt(args[0]) : RUNS;
        long from = args.length > 1 ? Long.parseLong(args[1]) : 1;
        for (int i = 0; i < runs; i++) {
            new ModelTest(from + i).run();
        }
        for (String name : REALS.keySet()) {
            if (ANSWERED.getOrDefault(name, 0) < runs / 10) {
                System.out.println("ModelTest: " + name + " was answered too seldom");
                System.exit(1);
            }
        }
        System.out.println("ModelTest: " + runs + " runs, all answers are the model's");
        if (args.length > 2) {
            System.out.println(ANSWERED);
        }
    }

    private void run() throws Exception {
        // nothing is promised beyond the 512th call: a text takes some 35, a sight of all some 250
        boolean sees = random.nextBoolean();
        int last = CALLS - (sees ? 290 : 40);
        tell("college", collegeText());
        while (calls < last) {
            int kind = random.nextInt(100);
            if (kind < 2) {
                tell("college", collegeText());
            } else if (kind < 6) {
                tell("law", lawText());
            } else if (kind < 16) {
                tell("work", workText());
            } else if (kind < 20) {
                tell("book", bookText());
            } else if (kind == 20) {
                for (int i = random.nextInt(34); i > 0; i--) {
                    call("feed", random.nextInt(), 1, 2, 3, 4);
                }
            } else {
                ask();
            }
        }
        if (sees) {
            sight();
        }
        if (calls > CALLS) {
            System.out.println("ModelTest: a run had more than 512 calls");
            System.exit(1);
        }
    }

    private void ask() throws Exception {
        List<String> names = new ArrayList<>(RANGES.keySet());
        String name = names.get(random.nextInt(names.size()));
        int[] bounds = RANGES.get(name);
        int[] args = new int[bounds.length / 2];
        for (int i = 0; i < args.length; i++) {
            args[i] = argument(bounds[2 * i], bounds[2 * i + 1]);
        }
        if (random.nextInt(3) > 0) {
            aim(args, name);
        }
        call(name, args);
    }

    private int argument(int low, int high) {
        switch (random.nextInt(60)) {
            case 0: return low - 1;
            case 1: return high + 1;
            case 2: return random.nextInt();
            case 3: return high;
            case 4: return low;
            case 5: return Integer.MIN_VALUE;
            default: return low + random.nextInt(high - low + 1);
        }
    }

    /** Most calls ask of fellows and glasses that are there. */
    private void aim(int[] args, String name) {
        int fellows = model.told(0);
        int glasses = model.told(1);
        boolean ofFellow = "fellow part turn through swings power light strongest joins blurs lacks mates first"
                .contains(name) && !name.equals("law");
        if (ofFellow && fellows > 0 && args.length > 0) {
            args[0] = random.nextInt(fellows);
        }
        if (name.equals("span") && fellows > 0) {
            args[5] = random.nextInt(fellows);
        }
        if (name.equals("spread")) {
            args[0] = random.nextInt(1 << fellows);
        }
        if (name.equals("light")) {
            args[1] = random.nextInt(1 << fellows);
        }
        if (glasses > 0 && (name.equals("joins") || name.equals("turn"))) {
            args[args.length - 1] = random.nextInt(glasses);
        }
        if (name.equals("through") || name.equals("place") || name.equals("halo")) {
            int i = name.equals("through") ? 2 : 0;
            args[i] = Math.floorMod(args[i], model.told(2));
        }
    }

    private void tell(String name, String text) throws Exception {
        String bytes = random.nextInt(5) == 0 ? spoilt(text) : text;
        for (int from = 0; from < bytes.length(); from += 20) {
            int[] five = new int[5];
            for (int i = 0; i < 20; i++) {
                five[i / 4] = five[i / 4] << 8 | (from + i < bytes.length() ? bytes.charAt(from + i) : ' ');
            }
            call("feed", five);
        }
        log.add("// " + name + " " + bytes);
        int n = random.nextInt(40) == 0 ? random.nextInt(700) - 20 : bytes.length();
        call(name, n);
        if (random.nextInt(3) == 0) {
            call("fault");
        }
    }

    /** All that there is now. */
    private void sight() throws Exception {
        for (int what = 0; what <= 11; what++) {
            call("told", what);
        }
        for (int fellow = 0; fellow < model.told(0); fellow++) {
            for (int what = 0; what <= 7; what++) {
                call("fellow", fellow, what);
            }
            for (int part = 0; part < 7; part++) {
                for (int what = 0; what <= 3; what++) {
                    call("part", fellow, part, what);
                }
            }
        }
        for (int place = 0; place < model.told(2); place += 7) {
            call("place", place);
        }
    }

    private String spoilt(String text) {
        StringBuilder b = new StringBuilder(text);
        int at = random.nextInt(b.length() + 1);
        String signs = " ;[](),+-*/%0123456789abdelnprwz" + (char) 0 + (char) 200 + "AZ";
        char c = signs.charAt(random.nextInt(signs.length()));
        switch (random.nextInt(4)) {
            case 0: b.insert(at, c); break;
            case 1: b.setLength(at); break;
            case 2: if (at < b.length()) { b.setCharAt(at, c); } break;
            default: if (at < b.length()) { b.deleteCharAt(at); } break;
        }
        return b.toString();
    }

    private String blank() {
        return random.nextInt(12) == 0 ? " ".repeat(1 + random.nextInt(3)) : "";
    }

    private int number(int low, int high) {
        int kind = random.nextInt(100);
        return kind == 0 ? high + 1 : kind == 1 ? Math.max(0, low - 1) : low + random.nextInt(high - low + 1);
    }

    private String collegeText() {
        StringBuilder b = new StringBuilder();
        int many = random.nextInt(20) == 0 ? 61 : 2 + random.nextInt(14);
        int most = random.nextInt(3) == 0 ? 3 : 40;
        int fellows = random.nextInt(40) == 0 ? 7 : random.nextInt(7);
        int glasses = random.nextInt(40) == 0 ? 9 : random.nextInt(9);
        boolean even = random.nextInt(4) == 0;
        for (int i = 0; i < many; i++) {
            b.append(blank());
            int kind = random.nextInt(3);
            if (kind == 0 && fellows > 0) {
                fellows--;
                b.append("fellow");
                int all = number(0, most);
                for (int p = 0; p < 7; p++) {
                    b.append(' ').append(blank()).append(even ? all : number(0, most));
                }
            } else if (kind == 1 && glasses > 0) {
                glasses--;
                b.append("glass ").append(number(1, 9)).append(" ").append(number(0, 1));
            } else if (random.nextInt(4) == 0 || many == 61) {
                b.append("wall").append(random.nextBoolean() ? " " : "").append(number(10, 99));
            } else {
                continue;
            }
            b.append(blank()).append(';');
        }
        if (b.length() > 600) {
            b.setLength(600);
        }
        return b.append(blank()).toString();
    }

    private String lawText() {
        String text = sum(0);
        return random.nextInt(9) > 0 && text.length() > 150 ? "part*3+bend" : text;
    }

    private String sum(int open) {
        StringBuilder b = new StringBuilder(product(open));
        while (random.nextInt(3) == 0) {
            b.append(blank()).append(random.nextBoolean() ? '+' : '-').append(product(open));
        }
        return b.toString();
    }

    private String product(int open) {
        StringBuilder b = new StringBuilder(unit(open));
        while (random.nextInt(3) == 0) {
            b.append(blank()).append("*/%".charAt(random.nextInt(3))).append(unit(open));
        }
        return b.toString();
    }

    private String unit(int open) {
        String[] names = {"part", "much", "bend", "all", "taken", "turns", "day", "fellow"};
        int kind = random.nextInt(12 + Math.max(0, open - 5) * 40);
        if (kind < 2) {
            return blank() + "(" + sum(open + 1) + blank() + ")";
        }
        if (kind == 2) {
            String word = random.nextBoolean() ? "least" : "most";
            return blank() + word + blank() + "[" + sum(open + 1) + "," + sum(open + 1) + "]";
        }
        if (kind < 7) {
            return blank() + (random.nextInt(9) == 0 ? number(0, 999) : number(0, 9));
        }
        return blank() + names[random.nextInt(names.length)];
    }

    private String workText() {
        StringBuilder b = new StringBuilder();
        int many = random.nextInt(14);
        for (int i = 0; i < many; i++) {
            String step = step(0);
            if (b.length() + step.length() < 148 || random.nextInt(60) == 0) {
                b.append(step);
            }
        }
        return b.append(blank()).toString();
    }

    private String step(int open) {
        int f = Math.max(0, model.told(0) - 1);
        int g = Math.max(0, model.told(1) - 1);
        String end = blank() + ";";
        switch (random.nextInt(9)) {
            case 0:
            case 1: return blank() + "part " + number(0, f) + " " + number(0, g) + end;
            case 2:
            case 3: return blank() + "join " + number(0, f) + " " + number(0, g) + end;
            case 4: return blank() + "take " + number(0, f) + " " + number(0, 6) + " " + number(1, 9) + end;
            case 5: return blank() + "give " + number(0, f) + " " + number(0, 6) + " " + number(1, 4) + end;
            case 6: return blank() + "swap " + number(0, f) + " " + number(0, f) + " " + number(0, 6) + end;
            case 7: return blank() + "day" + end;
            default: break;
        }
        StringBuilder b = new StringBuilder("again " + number(0, 40) + "[");
        if (random.nextInt(30) == 0) {
            b.append("again 2[".repeat(random.nextInt(8)));
        }
        for (int i = random.nextInt(4); i > 0; i--) {
            b.append(step(open + 1));
        }
        return b.append(blank()).append("]").append(end).toString();
    }

    private String bookText() {
        StringBuilder b = new StringBuilder();
        int many = random.nextInt(25) == 0 ? 10 : random.nextInt(3);
        for (int i = 0; i < many; i++) {
            int place = number(0, model.told(2) - 1);
            int much = random.nextInt(3) == 0 ? number(0, 400)
                    : place < model.told(2) && random.nextBoolean() ? Math.min(400, model.place(place)) : 0;
            b.append(blank()).append(place).append(' ').append(much).append(blank()).append(';');
        }
        return b.toString();
    }

    private void call(String name, int... args) throws Exception {
        Object[] boxed = new Object[args.length];
        for (int i = 0; i < args.length; i++) {
            boxed[i] = args[i];
        }
        calls++;
        Object want = answer(MODELS.get(name), model, boxed);
        Object got = answer(REALS.get(name), real, boxed);
        log.add(name + java.util.Arrays.toString(args) + " = " + want);
        if (!want.equals(got)) {
            log.forEach(System.out::println);
            System.out.println("ModelTest: the last call answered " + got + ", due is " + want);
            System.exit(1);
        }
        if (want instanceof Number) {
            ANSWERED.merge(name, 1, Integer::sum);
        }
    }

    private static Object answer(Method m, Object on, Object[] args) throws Exception {
        try {
            return m.invoke(on, args);
        } catch (InvocationTargetException e) {
            return e.getCause().getClass().getName();
        }
    }
}
