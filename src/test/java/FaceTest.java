import java.io.IOException;
import java.lang.reflect.Constructor;
import java.lang.reflect.Executable;
import java.lang.reflect.Field;
import java.lang.reflect.Method;
import java.lang.reflect.Modifier;
import java.nio.file.Files;
import java.nio.file.Path;
import java.util.ArrayList;
import java.util.Arrays;
import java.util.Collections;
import java.util.List;
import java.util.Map;
import java.util.TreeMap;
import java.util.regex.Matcher;
import java.util.regex.Pattern;

/** The public face and the constants, and those rules of LANGUAGE.md that can be seen from outside or by word. */
public final class FaceTest {
    private static final Path SOURCE = Path.of("src", "main", "java", "KingDrops.java");
    private static final String[] FACE = {
        "act(int,int):int", "back(int):int", "clear():int", "count(int):int", "decanter(int,int):int",
        "fits(int):int", "forget():int", "keep(int):int", "labels(int,int):int", "mark(int,int):int", "month():int",
        "needs(int,int):int", "now(int):int", "odds(int,int,int):int", "pours(int):int", "right(int):int",
        "share(int):int", "sideboard():int", "tells(int,int):int", "tops(int,int):int", "trace():long",
        "tray(int):int", "type(int):int", "undo():int"};
    private static final String[] NOT_IN_THE_LANGUAGE = {"import", "package", "throw", "throws", "try", "catch",
        "synchronized", "assert", "protected", "volatile", "native", "yield", "var", "->", "::", "@", "System.out",
        "System.err", "nanoTime", "currentTimeMillis", "Random", "Thread", "Object", "equals", "hashCode", "toString"};

    public static void main(String[] args) throws IOException {
        hasItsFace();
        hasItsConstants();
        hidesTheRest();
        keepsToItsWords();
        staysSmall();
        staysShallow();
        Due.ends();
    }

    private static void isSo(String what, boolean so) {
        Due.is(what, so ? 1 : 0, 1);
    }

    private static void hasItsFace() {
        isSo("public and final", Modifier.isPublic(KingDrops.class.getModifiers())
            && Modifier.isFinal(KingDrops.class.getModifiers()));
        List<String> found = new ArrayList<>();
        for (Method method : KingDrops.class.getDeclaredMethods()) {
            if (!Modifier.isPrivate(method.getModifiers())) {
                isSo(method + " is public, of an object", Modifier.isPublic(method.getModifiers())
                    && !Modifier.isStatic(method.getModifiers()));
                found.add(signature(method));
            }
        }
        Collections.sort(found);
        isSo("the methods " + found, found.equals(List.of(FACE)));
        Constructor<?>[] made = KingDrops.class.getDeclaredConstructors();
        isSo("one constructor", made.length == 1 && Modifier.isPublic(made[0].getModifiers())
            && made[0].getParameterCount() == 0);
    }

    private static String signature(Method method) {
        List<String> types = new ArrayList<>();
        for (Class<?> type : method.getParameterTypes()) {
            types.add(type.getName());
        }
        return method.getName() + "(" + String.join(",", types) + "):" + method.getReturnType().getName();
    }

    private static void hasItsConstants() {
        Due.is("BAD", KingDrops.BAD, -1);
        Due.is("STATE", KingDrops.STATE, -2);
        Due.is("FULL", KingDrops.FULL, -3);
        Due.is("NONE", KingDrops.NONE, -9);
        Due.is("NO", KingDrops.NO, -1000000);
        int constants = 0;
        for (Field field : KingDrops.class.getDeclaredFields()) {
            int how = field.getModifiers();
            if (!Modifier.isPrivate(how)) {
                isSo(field + " is a public constant of int", Modifier.isPublic(how) && Modifier.isStatic(how)
                    && Modifier.isFinal(how) && field.getType() == int.class);
                constants++;
            }
        }
        Due.is("constants", constants, 5);
    }

    private static void hidesTheRest() {
        List<String> names = new ArrayList<>();
        for (String signature : FACE) {
            names.add(signature.substring(0, signature.indexOf('(')));
        }
        List<Class<?>> all = new ArrayList<>(List.of(KingDrops.class.getDeclaredClasses()));
        all.add(KingDrops.class);
        for (Class<?> one : all) {
            for (Field field : one.getDeclaredFields()) {
                isSo(field + " is final, if it is static", !Modifier.isStatic(field.getModifiers())
                    || Modifier.isFinal(field.getModifiers()));
            }
            for (Method method : one.getDeclaredMethods()) {
                isSo(method + " bears no name of the face", one == KingDrops.class
                    && !Modifier.isPrivate(method.getModifiers()) || !names.contains(method.getName()));
                isSo(method + " has seven parameters at most", ((Executable) method).getParameterCount() <= 7);
            }
        }
        for (Class<?> inside : KingDrops.class.getDeclaredClasses()) {
            isSo(inside + " is static and hidden", Modifier.isStatic(inside.getModifiers())
                && !Modifier.isPublic(inside.getModifiers()) && !Modifier.isProtected(inside.getModifiers()));
        }
    }

    private static void keepsToItsWords() throws IOException {
        isSo("signs 1 to 127 alone", Files.readString(SOURCE).chars().allMatch(c -> c > 0 && c < 128));
        String code = code();
        for (String word : NOT_IN_THE_LANGUAGE) {
            String pattern = Character.isLetter(word.charAt(0)) ? "\\b" + Pattern.quote(word) + "\\b" : Pattern.quote(word);
            isSo("no " + word, !Pattern.compile(pattern).matcher(code).find());
        }
        Matcher makes = Pattern.compile("\\bnew (\\w+)").matcher(code);
        while (makes.find()) {
            int depth = depthAt(code, makes.start());
            isSo("made with the object, in no method: " + makes.group(), depth <= 2 && isInField(code, makes.start()));
        }
    }

    private static String code() throws IOException {
        return Files.readString(SOURCE).replaceAll("(?s)/\\*.*?\\*/", "").replaceAll("//[^\n]*", "");
    }

    private static void staysSmall() throws IOException {
        List<Class<?>> all = new ArrayList<>(List.of(KingDrops.class.getDeclaredClasses()));
        all.add(KingDrops.class);
        isSo("twelve classes at most", all.size() <= 12);
        for (Class<?> one : all) {
            long fields = Arrays.stream(one.getDeclaredFields()).filter(field -> !Modifier.isStatic(field.getModifiers())).count();
            isSo(one + " has twenty fields at most", fields <= 20);
        }
        bodies(code()).forEach((name, body) -> isSo(name + " has sixty lines at most", body.lines().count() <= 60));
        Matcher library = Pattern.compile("\\b([A-Z]\\w*)\\.(\\w+)\\(").matcher(code());
        while (library.find()) {
            String name = library.group(1) + "." + library.group(2);
            isSo(name + " is in the language", List.of("Math.max", "Math.min", "Math.abs", "Integer.bitCount", "System.arraycopy").contains(name));
        }
    }

    /** No method comes back to itself, and none goes deeper than eight. */
    private static void staysShallow() throws IOException {
        Map<String, String> bodies = bodies(code());
        for (String name : bodies.keySet()) {
            int depth = depth(name, bodies, 1);
            isSo(name + " goes eight deep at most, not " + depth, depth <= 8);
        }
    }

    private static int depth(String name, Map<String, String> bodies, int ahead) {
        int deepest = ahead;
        Matcher called = Pattern.compile("\\b(\\w+)\\(").matcher(bodies.get(name));
        while (called.find() && deepest <= 8) {
            if (bodies.containsKey(called.group(1))) {
                deepest = Math.max(deepest, depth(called.group(1), bodies, ahead + 1));
            }
        }
        return deepest;
    }

    /** By name what stands between each method's braces; no two methods of the file bear one name. */
    private static Map<String, String> bodies(String code) {
        Map<String, String> bodies = new TreeMap<>();
        Matcher head = Pattern.compile("(?m)^ +(?:public|private)(?: static)? [\\w\\[\\]]+ (\\w+)\\([^)]*\\) \\{").matcher(code);
        while (head.find()) {
            int end = head.end();
            for (int open = 1; open > 0 && end < code.length(); end++) {
                open += code.charAt(end) == '{' ? 1 : code.charAt(end) == '}' ? -1 : 0;
            }
            isSo("one method is called " + head.group(1), bodies.put(head.group(1), code.substring(head.end(), end)) == null);
        }
        return bodies;
    }

    private static int depthAt(String code, int at) {
        int depth = 0;
        for (int i = 0; i < at; i++) {
            depth += code.charAt(i) == '{' ? 1 : code.charAt(i) == '}' ? -1 : 0;
        }
        return depth;
    }

    /** Nothing is made by a call, so all calls of a run make no more than their objects did. */
    private static boolean isInField(String code, int at) {
        String line = code.substring(code.lastIndexOf('\n', at) + 1, at).trim();
        return line.startsWith("private ") && line.endsWith("=");
    }
}
