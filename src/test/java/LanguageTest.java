import java.io.IOException;
import java.lang.reflect.Constructor;
import java.lang.reflect.Field;
import java.lang.reflect.Method;
import java.lang.reflect.Modifier;
import java.nio.file.Files;
import java.nio.file.Path;
import java.util.ArrayList;
import java.util.Arrays;
import java.util.List;
import java.util.Map;
import java.util.Set;
import java.util.TreeMap;
import java.util.TreeSet;
import java.util.regex.Matcher;
import java.util.regex.Pattern;

/** The class's face, and the rules of LANGUAGE.md that can be seen in the words of the source. */
public final class LanguageTest {
    private static final String[] FACE = {"sets(int,int,int):int", "of(int,int):int", "keys(int):int", "dusk():int", "type(int):int",
        "clear():int", "goes():int", "tries():int", "often(int):int", "was(int):int", "root():int", "diary(int):int", "open():int",
        "fewest():int", "were(int,int):int", "cures(int):int", "ends(int):int", "told(int):int", "draw(int):int", "back():int",
        "count(int):int", "digest():long"};
    private static int wrong = 0;

    public static void main(String[] args) throws IOException {
        faceIsTheDocuments();
        classesInside();
        words(withoutTexts(Files.readString(Path.of("src/main/java/NightRounds.java"))));
        System.out.println(wrong == 0 ? "the language is kept" : wrong + " rules are not kept");
        if (wrong != 0) System.exit(1);
    }

    private static void must(boolean holds, String rule) {
        if (!holds) {
            wrong++;
            System.out.println("not kept: " + rule);
        }
    }

    private static void faceIsTheDocuments() {
        Class<NightRounds> face = NightRounds.class;
        must(Modifier.isPublic(face.getModifiers()) && Modifier.isFinal(face.getModifiers()), "1 public and final");
        Set<String> methods = new TreeSet<>();
        Set<String> publicNames = new TreeSet<>();
        for (Method m : face.getDeclaredMethods()) {
            if (Modifier.isPublic(m.getModifiers())) {
                methods.add(signature(m));
                publicNames.add(m.getName());
            }
        }
        must(methods.equals(new TreeSet<>(Arrays.asList(FACE))), "1 the face's methods: " + methods);
        for (Method m : face.getDeclaredMethods()) {
            if (Modifier.isPublic(m.getModifiers())) continue;
            must(Modifier.isPrivate(m.getModifiers()), "1 private: " + m.getName());
            must(!publicNames.contains(m.getName()), "1 a private method with a public one's name: " + m.getName());
        }
        Set<String> constants = new TreeSet<>();
        for (Field f : face.getDeclaredFields()) {
            if (Modifier.isPublic(f.getModifiers())) constants.add(f.getName());
            else must(Modifier.isPrivate(f.getModifiers()), "1 private: " + f.getName());
        }
        must(constants.equals(new TreeSet<>(Arrays.asList("NONE", "BAD", "NO", "FULL"))), "1 the face's constants: " + constants);
        Constructor<?>[] makers = face.getDeclaredConstructors();
        must(makers.length == 1 && makers[0].getParameterCount() == 0, "1 one constructor");
    }

    private static String signature(Method m) {
        StringBuilder b = new StringBuilder(m.getName()).append('(');
        for (Class<?> c : m.getParameterTypes()) b.append(b.charAt(b.length() - 1) == '(' ? "" : ",").append(c.getName());
        return b.append("):").append(m.getReturnType().getName()).toString();
    }

    private static void classesInside() {
        Class<?>[] inside = NightRounds.class.getDeclaredClasses();
        must(inside.length <= 11, "11 twelve classes");
        for (Class<?> c : inside) {
            int m = c.getModifiers();
            must(Modifier.isStatic(m) && !Modifier.isPublic(m) && !Modifier.isProtected(m), "1, 2 static: " + c);
            must(c.getDeclaredFields().length <= 20, "11 twenty fields: " + c);
            for (Field f : c.getDeclaredFields()) must(!Modifier.isStatic(f.getModifiers()) || Modifier.isFinal(f.getModifiers()), "5 " + f);
            for (Method f : c.getDeclaredMethods()) must(f.getParameterCount() <= 7, "11 seven parameters: " + f);
        }
    }

    /** The source with comments, texts and signs taken out, so that only code is searched. */
    private static String withoutTexts(String source) {
        return source.replaceAll("(?s)/\\*.*?\\*/", " ").replaceAll("//[^\n]*", " ")
            .replaceAll("'(\\\\.|[^'])'", "0").replaceAll("\"(\\\\.|[^\"])*\"", "0");
    }

    private static void words(String code) {
        for (String word : new String[] {"throw", "throws", "try", "catch", "finally", "synchronized", "assert", "package", "float",
            "double", "native", "volatile", "hashCode", "toString", "Thread", "Random", "Exception", "Error", "Exact"}) {
            must(!Pattern.compile("\\b" + word + "\\b").matcher(code).find(), "the word " + word);
        }
        must(!code.contains("->"), "2 no lambda");
        must(!code.contains("::"), "2 no method reference");
        must(!Pattern.compile("static\\s*\\{").matcher(code).find(), "5 no static initialiser");
        Matcher imports = Pattern.compile("import\\s+([\\w.*]+)").matcher(code);
        while (imports.find()) must(Set.of("java.util.Arrays", "java.util.ArrayList", "java.util.List").contains(imports.group(1)), "4 " + imports.group(1));
        Matcher calls = Pattern.compile("\\b(System|Arrays|Math|Integer|Long)\\.(\\w+)").matcher(code);
        Set<String> library = Set.of("System.arraycopy", "Arrays.fill", "Arrays.copyOf", "Arrays.copyOfRange", "Math.min", "Math.max",
            "Math.abs", "Math.floorMod", "Math.floorDiv", "Integer.bitCount");
        while (calls.find()) must(library.contains(calls.group()), "4 " + calls.group());
        methodsAreShort(code);
        callsAreFewDeep(code);
    }

    private static void methodsAreShort(String code) {
        Matcher heads = Pattern.compile("(?m)^( +)[\\w\\[\\] ]+\\([^;{}]*\\) \\{$").matcher(code);
        int found = 0;
        while (heads.find()) {
            int end = code.indexOf("\n" + heads.group(1) + "}", heads.end());
            long lines = end < 0 ? 999 : code.substring(heads.start(), end).lines().count();
            must(lines <= 60, "11 short methods: " + heads.group().trim());
            found++;
        }
        must(found > 50, "the methods were found");
    }

    /** Methods of one name are taken for one, so that what is found is never less deep than what is. */
    private static void callsAreFewDeep(String code) {
        Map<String, Set<String>> calls = callsByMethod(code);
        must(calls.size() > 80, "the methods were found");
        for (String method : calls.keySet()) {
            List<String> chain = longestChain(method, calls, new ArrayList<>());
            must(chain.size() <= 8, "11 calls at most eight deep: " + chain);
        }
    }

    private static Map<String, Set<String>> callsByMethod(String code) {
        Map<String, String> bodies = new TreeMap<>();
        Matcher heads = Pattern.compile("(?m)^( +)(?:(?:public|private|static) )*[\\w\\[\\]]+ (\\w+)\\([^;{}]*\\) \\{$").matcher(code);
        while (heads.find()) {
            int end = code.indexOf("\n" + heads.group(1) + "}", heads.end());
            bodies.merge(heads.group(2), code.substring(heads.end(), end), String::concat);
        }
        Map<String, Set<String>> calls = new TreeMap<>();
        for (String method : bodies.keySet()) {
            Set<String> called = new TreeSet<>();
            Matcher names = Pattern.compile("\\b(\\w+)\\(").matcher(bodies.get(method));
            while (names.find()) if (bodies.containsKey(names.group(1))) called.add(names.group(1));
            calls.put(method, called);
        }
        return calls;
    }

    /** The longest chain of calls from here in which no method stands twice: a recursion is gone through once. */
    private static List<String> longestChain(String method, Map<String, Set<String>> calls, List<String> above) {
        List<String> here = new ArrayList<>(above);
        here.add(method);
        List<String> longest = here;
        for (String called : calls.get(method)) {
            if (here.contains(called)) continue;
            List<String> chain = longestChain(called, calls, here);
            if (chain.size() > longest.size()) longest = chain;
        }
        return longest;
    }
}
