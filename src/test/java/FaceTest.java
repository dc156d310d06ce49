import java.io.IOException;
import java.lang.reflect.Constructor;
import java.lang.reflect.Field;
import java.lang.reflect.Method;
import java.lang.reflect.Modifier;
import java.nio.file.Files;
import java.nio.file.Path;
import java.util.ArrayList;
import java.util.HashSet;
import java.util.List;
import java.util.Set;
import java.util.TreeSet;
import java.util.regex.Matcher;
import java.util.regex.Pattern;

/** The face is the document's, and the source keeps to those rules of LANGUAGE.md that can be read off it. */
final class FaceTest {
    private static final Due DUE = new Due();
    private static final String[] FACE = {
        "person(int)", "here(int,boolean)", "day(int)", "share(int)", "text(int)", "wipe()",
        "change(int,int,int,int)", "back(int,int)", "read(int,int,int,int)", "image()", "restore()", "lines(int)",
        "line(int,int,int)", "mark(int,int,int,int)", "changeTold(int,int)", "points(int,int,int)",
        "knows(int,int)", "able(int,int)", "lost(int)", "lone(int)", "cover()", "plan(int,int)", "sum(int,int)",
        "count(int)", "act(int,int,int)", "trace(int)", "sheet(int,int,int)", "cell(int,int,int)", "come(int,int)",
        "forge(int,int,int)", "status()"};
    private static final String[] RULED_OUT = {
        "throw", "throws", "try", "catch", "finally", "synchronized", "assert", "import static", "->", "::",
        "System.out", "Random", "currentTimeMillis", "nanoTime", "Thread", "Exact", "equals", "hashCode", "toString"};

    public static void main(String[] args) throws IOException {
        DUE.is("NONE", KnowHouse.NONE, -1);
        methods();
        fields();
        classes();
        source();
        DUE.end();
    }

    private static void holds(String what, boolean so) {
        DUE.is(what, so ? 1 : 0, 1);
    }

    private static void methods() {
        Set<String> wanted = new TreeSet<>(List.of(FACE));
        Set<String> names = new HashSet<>();
        for (String one : FACE) {
            names.add(one.substring(0, one.indexOf('(')));
        }
        Set<String> found = new TreeSet<>();
        for (Method m : KnowHouse.class.getDeclaredMethods()) {
            if (Modifier.isPrivate(m.getModifiers())) {
                holds(m.getName() + " is no private one's name", !names.contains(m.getName()));
                continue;
            }
            List<String> types = new ArrayList<>();
            for (Class<?> type : m.getParameterTypes()) {
                types.add(type.getName());
            }
            found.add(m.getName() + "(" + String.join(",", types) + ")");
            holds(m.getName() + " is public and answers an int",
                    m.getModifiers() == Modifier.PUBLIC && m.getReturnType() == int.class);
        }
        holds("the methods are " + found, found.equals(wanted));
    }

    private static void fields() {
        for (Field f : KnowHouse.class.getDeclaredFields()) {
            boolean isNone = f.getName().equals("NONE");
            holds(f.getName() + " is private", isNone || Modifier.isPrivate(f.getModifiers()));
            holds(f.getName() + ": no static state",
                    !Modifier.isStatic(f.getModifiers()) || Modifier.isFinal(f.getModifiers()));
        }
    }

    private static void classes() {
        Constructor<?>[] made = KnowHouse.class.getDeclaredConstructors();
        holds("one constructor, public, of nothing",
                made.length == 1 && made[0].getModifiers() == Modifier.PUBLIC && made[0].getParameterCount() == 0);
        holds("the class is public and final",
                KnowHouse.class.getModifiers() == (Modifier.PUBLIC | Modifier.FINAL));
        Class<?>[] inside = KnowHouse.class.getDeclaredClasses();
        holds("some twelve classes at most", inside.length < 12);
        for (Class<?> one : inside) {
            holds(one + " is static", Modifier.isStatic(one.getModifiers()));
            holds(one + " is not public", !Modifier.isPublic(one.getModifiers()));
            int held = 0;
            for (Field f : one.getDeclaredFields()) {
                held += Modifier.isStatic(f.getModifiers()) ? 0 : 1;
                holds(one + "." + f.getName() + ": no static state",
                        !Modifier.isStatic(f.getModifiers()) || Modifier.isFinal(f.getModifiers()));
            }
            holds(one + " has some twenty fields at most", held <= 20);
            for (Method m : one.getDeclaredMethods()) {
                holds(one + "." + m.getName() + " takes seven parameters at most", m.getParameterCount() <= 7);
            }
            for (Constructor<?> c : one.getDeclaredConstructors()) {
                holds(one + " is made of seven parameters at most", c.getParameterCount() <= 7);
            }
        }
    }

    private static void source() throws IOException {
        String text = Files.readString(Path.of("src/main/java/KnowHouse.java"));
        String code = text.replaceAll("(?s)/\\*.*?\\*/", "").replaceAll("//.*", "");
        for (String word : RULED_OUT) {
            boolean isWord = Character.isLetter(word.charAt(0));
            String edge = isWord ? "\\b" : "";
            Matcher m = Pattern.compile(edge + Pattern.quote(word) + (word.equals("Exact") ? "" : edge)).matcher(code);
            holds("no " + word, !m.find());
        }
        Matcher imports = Pattern.compile("(?m)^import (.*);$").matcher(code);
        while (imports.find()) {
            holds("import " + imports.group(1), imports.group(1).equals("java.util.Arrays"));
        }
        holds("no package line", !Pattern.compile("(?m)^package ").matcher(code).find());
        Matcher fills = Pattern.compile("Arrays\\.(\\w+)").matcher(code);
        while (fills.find()) {
            holds("Arrays." + fills.group(1), fills.group(1).matches("fill|copyOf|copyOfRange"));
        }
    }
}
