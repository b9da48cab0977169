import java.io.IOException;
import java.lang.reflect.Field;
import java.lang.reflect.Method;
import java.lang.reflect.Modifier;
import java.nio.file.Files;
import java.nio.file.Path;
import java.util.Arrays;
import java.util.List;
import java.util.Map;
import java.util.Set;
import java.util.TreeMap;
import java.util.TreeSet;
import java.util.regex.Matcher;
import java.util.regex.Pattern;

/** The public face as the document has it, and rules of LANGUAGE.md that can be seen from outside. */
public final class FaceTest {
    private static final Check check = new Check("FaceTest");
    private static int recursive;
    private static final String FACE = "feed/5 college/1 law/1 work/1 book/1 fault/0 undo/0 told/1 fellow/2 part/3 "
            + "glass/2 place/1 turn/3 would/8 ahead/2 spread/1 bow/1 through/3 serves/2 fits/1 look/1 swings/3 "
            + "power/4 green/3 lookers/3 light/3 broadest/1 strongest/2 joins/2 blurs/1 lit/0 lacks/2 mates/1 "
            + "first/1 halo/2 term/4 span/6 image/0 restore/0 status/1 count/1";

    public static void main(String[] args) throws IOException {
        face();
        membersInside();
        source(Files.readString(Path.of("src/main/java/PartedFellows.java")));
        check.end();
    }

    private static void yes(String what, boolean holds) {
        check.same(what, 1, holds ? 1 : 0);
    }

    private static void face() {
        Class<?> c = PartedFellows.class;
        yes("public and final", Modifier.isPublic(c.getModifiers()) && Modifier.isFinal(c.getModifiers()));
        yes("extends Object", c.getSuperclass() == Object.class && c.getInterfaces().length == 0);
        Set<String> due = new TreeSet<>(Arrays.asList(FACE.split(" ")));
        Set<String> got = new TreeSet<>();
        for (Method m : c.getDeclaredMethods()) {
            if (Modifier.isPublic(m.getModifiers())) {
                got.add(m.getName() + "/" + m.getParameterCount());
                yes(m.getName() + " is an object's", !Modifier.isStatic(m.getModifiers()));
                yes(m.getName() + " takes int alone",
                        Arrays.stream(m.getParameterTypes()).allMatch(t -> t == int.class));
                yes(m.getName() + "'s answer",
                        m.getReturnType() == (m.getName().equals("green") ? long.class : int.class));
            } else {
                yes(m.getName() + " is private", Modifier.isPrivate(m.getModifiers()));
                yes(m.getName() + " bears no public name", !FACE.matches("(.* )?" + m.getName() + "/.*"));
                yes(m.getName() + " takes seven at most", m.getParameterCount() <= 7);
            }
        }
        check.same("methods of the face", due.size(), got.size());
        yes("the methods of the face: " + got, due.equals(got));
        check.same("constructors", 1, c.getDeclaredConstructors().length);
        yes("the constructor is public", Modifier.isPublic(c.getDeclaredConstructors()[0].getModifiers()));
    }

    private static void membersInside() {
        Class<?>[] inside = PartedFellows.class.getDeclaredClasses();
        yes("some twelve classes", inside.length <= 11);
        for (Class<?> c : inside) {
            yes(c + " is static", Modifier.isStatic(c.getModifiers()) || c.isInterface() || c.isEnum());
            yes(c + " is no part of the face",
                    !Modifier.isPublic(c.getModifiers()) && !Modifier.isProtected(c.getModifiers()));
            for (Method m : c.getDeclaredMethods()) {
                yes(m.getName() + " bears no public name", !FACE.matches("(.* )?" + m.getName() + "/.*"));
                yes(m.getName() + " takes seven at most", m.getParameterCount() <= 7);
            }
            fields(c);
        }
        fields(PartedFellows.class);
    }

    private static void fields(Class<?> c) {
        int own = 0;
        for (Field f : c.getDeclaredFields()) {
            boolean isStatic = Modifier.isStatic(f.getModifiers());
            own += isStatic ? 0 : 1;
            yes(f + " is final, if static", !isStatic || Modifier.isFinal(f.getModifiers()));
            yes(f + " is private", Modifier.isPrivate(f.getModifiers())
                    || c == PartedFellows.class && f.getName().equals("NONE"));
        }
        yes(c + " has some twenty fields", own <= 20);
    }

    private static void source(String text) {
        String code = text.replaceAll("(?s)/\\*.*?\\*/", "").replaceAll("//[^\n]*", "")
                .replaceAll("\"[^\"\n]*\"", "\"\"");
        List<String> banned = List.of("\\btry\\b", "\\bcatch\\b", "\\bfinally\\b", "\\bassert\\b", "\\bsynchronized\\b",
                "->", "::", "Exact\\b", "\\bSystem\\.(?!arraycopy)", "\\bMath\\.(?!(min|max|abs)\\b)", "\\bRandom\\b",
                "\\bString\\.", "\\bObject\\b", "\\bprotected\\b", "\\bwhile \\(true\\)", "for \\(;;\\)");
        for (String b : banned) {
            yes("no " + b, !Pattern.compile(b).matcher(code).find());
        }
        Matcher imports = Pattern.compile("import ([\\w.]+);").matcher(code);
        while (imports.find()) {
            yes("import " + imports.group(1),
                    List.of("java.util.Arrays", "java.util.NoSuchElementException").contains(imports.group(1)));
        }
        yes("signs of 1 to 127 alone", text.chars().allMatch(s -> s > 0 && s < 128));
        methodLengths(code);
        for (String one : code.split("\n    private static final class ")) {
            recursion(one);
        }
        check.same("methods that are recursive", 6, recursive);
    }

    /** Rule 8: methods of a class that come back to themselves, by themselves or by others of it, are private. */
    private static void recursion(String classCode) {
        Map<String, String> heads = new TreeMap<>();
        Map<String, Set<String>> calls = new TreeMap<>();
        Matcher method = Pattern.compile("(?ms)^( {4}| {8})((?:[\\w\\[\\]]+ )+)(\\w+)\\([^;{]*\\{\n(.*?)^\\1\\}$")
                .matcher(classCode);
        while (method.find()) {
            heads.put(method.group(3), method.group(2));
            Set<String> called = calls.computeIfAbsent(method.group(3), k -> new TreeSet<>());
            Matcher call = Pattern.compile("(?<![.\\w])(\\w+)\\(").matcher(method.group(4));
            while (call.find()) {
                called.add(call.group(1));
            }
        }
        for (String name : heads.keySet()) {
            Set<String> reached = new TreeSet<>(calls.get(name));
            for (int i = 0; i < heads.size(); i++) {
                for (String other : List.copyOf(reached)) {
                    reached.addAll(calls.getOrDefault(other, Set.of()));
                }
            }
            yes(name + " is private, if it is recursive", !reached.contains(name) || heads.get(name).contains("private"));
            recursive += reached.contains(name) ? 1 : 0;
        }
    }

    private static void methodLengths(String code) {
        String[] lines = code.split("\n", -1);
        for (int i = 0; i < lines.length; i++) {
            Matcher head = Pattern.compile("^( {4}| {8})[\\w\\[\\]]+( [\\w\\[\\]]+)* ?\\w+\\([^;]*\\{$").matcher(lines[i]);
            if (head.find() && !lines[i].contains(" new ")) {
                String end = head.group(1) + "}";
                int at = i;
                while (at < lines.length && !lines[at].equals(end)) {
                    at++;
                }
                yes("some sixty lines: " + lines[i].trim(), at - i < 60);
            }
        }
    }
}
