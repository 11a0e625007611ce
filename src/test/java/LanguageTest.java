import java.io.IOException;
import java.lang.reflect.Constructor;
import java.lang.reflect.Executable;
import java.lang.reflect.Field;
import java.lang.reflect.Method;
import java.lang.reflect.Modifier;
import java.nio.file.Files;
import java.nio.file.Path;
import java.util.ArrayList;
import java.util.Arrays;
import java.util.List;
import java.util.Set;
import java.util.TreeSet;
import java.util.regex.Matcher;
import java.util.regex.Pattern;
import java.util.stream.Collectors;

/** What of ../shared/LANGUAGE.md and of the document's face can be seen from the source and the classes. */
public final class LanguageTest {
    private static final Path SOURCE = Path.of("src/main/java/MendedWithTheWord.java");
    private static final List<String> FACE = List.of("set(int,int,int)int", "person(int,int)int",
        "seam(int,int,int)int", "told(int,int)int", "feed(int)int", "text()int", "force(int)int", "call(int)int",
        "vase(int)int", "part(int)int", "when(int)int", "fewest(int)int", "wanted(int)int", "soon()int",
        "gentler()int", "tells(int,int,int,int)int", "film(int,int,int,int)int", "drawn(int)int",
        "chance(int,int,int)long", "image()int", "back()int", "count(int)int", "sheet(int,int,int)int",
        "cell(int,int,int)int", "copy(int,int,int,int,int)int", "people(int,int,int,int)int", "taken(int,int)int");
    private static final String[] FORBIDDEN = {"\\bthrow\\b", "\\bthrows\\b", "\\btry\\b", "\\bcatch\\b",
        "\\bsynchronized\\b", "\\bassert\\b", "->", "::", "\\bObject\\b", "\\bSystem\\.(?!arraycopy\\b)",
        "\\bThread\\b", "\\bRandom\\b", "Exact\\b", "\\bpackage\\b", "\\bstatic\\s*\\{", "@\\w+", "\\bfloat\\b",
        "\\bdouble\\b", "\\bString\\.", "\\bequals\\b", "\\bhashCode\\b", "\\btoString\\b"};

    private static final Due due = new Due("LanguageTest");

    public static void main(String[] args) throws IOException {
        String source = Files.readString(SOURCE);
        words(withoutComments(source));
        sections(source);
        face();
        classes();
        due.end();
    }

    private static String withoutComments(String source) {
        return source.replaceAll("(?s)/\\*.*?\\*/", " ").replaceAll("//[^\n]*", " ").replaceAll("\"[^\"\n]*\"", "\"\"");
    }

    private static void words(String code) {
        for (String word : FORBIDDEN) {
            Matcher found = Pattern.compile(word).matcher(code);
            due.same("what stands for " + word, found.find() ? found.group() : "nothing", "nothing");
        }
        List<String> imports = code.lines().filter(line -> line.startsWith("import ")).toList();
        due.same("imports", imports, List.of("import java.util.Arrays;"));
        due.is("signs 1 to 127", code.chars().filter(c -> c < 1 || c > 127).count(), 0);
    }

    private static void sections(String source) {
        int from = 0;
        for (String said : new String[] {"---- people, seams.", "public int set(", "public int told(", "---- texts.",
            "public int feed(", "public int force(", "---- what is whole.", "public int call(", "public int part(",
            "---- what would be best.", "public int when(", "public int gentler(", "---- what was heard.",
            "public int tells(", "public int count(", "---- the host.", "public int sheet(", "public int taken("}) {
            int at = source.indexOf(said, from);
            due.same("in its place: " + said, at >= from, true);
            from = Math.max(from, at);
        }
    }

    private static String signature(Method method) {
        return method.getName() + Arrays.stream(method.getParameterTypes()).map(Class::getSimpleName)
            .collect(Collectors.joining(",", "(", ")")) + method.getReturnType().getSimpleName();
    }

    private static boolean isPublicOrPrivate(int modifiers) {
        return Modifier.isPublic(modifiers) || Modifier.isPrivate(modifiers);
    }

    private static void face() {
        Class<?> face = MendedWithTheWord.class;
        due.same("public and final", Modifier.toString(face.getModifiers()), "public final");
        Set<String> publicMethods = new TreeSet<>();
        Set<String> publicNames = new TreeSet<>();
        List<String> privateNames = new ArrayList<>();
        for (Method method : face.getDeclaredMethods()) {
            int modifiers = method.getModifiers();
            due.same("public or private: " + method, isPublicOrPrivate(modifiers), true);
            if (Modifier.isPublic(modifiers)) {
                due.same("of the object: " + method, Modifier.isStatic(modifiers), false);
                publicMethods.add(signature(method));
                publicNames.add(method.getName());
            } else {
                privateNames.add(method.getName());
            }
        }
        due.same("the methods", publicMethods, new TreeSet<>(FACE));
        privateNames.retainAll(publicNames);
        due.same("private ones of the name of a public one", privateNames, List.of());
        due.same("the constructors", Arrays.stream(face.getDeclaredConstructors()).map(Constructor::toString).toList(),
            List.of("public MendedWithTheWord()"));
        Set<String> constants = new TreeSet<>();
        for (Field field : face.getDeclaredFields()) {
            int modifiers = field.getModifiers();
            due.same("public or private: " + field, isPublicOrPrivate(modifiers), true);
            if (Modifier.isPublic(modifiers)) {
                constants.add(field.toString());
            }
        }
        String mine = " MendedWithTheWord.";
        due.same("the constants", constants, new TreeSet<>(List.of("public static final int" + mine + "NONE",
            "public static final int" + mine + "BAD", "public static final int" + mine + "STATE",
            "public static final int" + mine + "FULL", "public static final long" + mine + "NO")));
    }

    private static void classes() {
        List<Class<?>> all = new ArrayList<>(List.of(MendedWithTheWord.class));
        all.addAll(List.of(MendedWithTheWord.class.getDeclaredClasses()));
        due.same("some twelve classes", all.size() <= 12, true);
        for (Class<?> one : all) {
            due.same("static: " + one, one == all.get(0) || Modifier.isStatic(one.getModifiers()), true);
            int fields = 0;
            for (Field field : one.getDeclaredFields()) {
                int modifiers = field.getModifiers();
                boolean isStatic = Modifier.isStatic(modifiers);
                due.same("static is final: " + field, !isStatic || Modifier.isFinal(modifiers), true);
                fields += isStatic ? 0 : 1;
            }
            due.same("some twenty fields: " + one, fields <= 20, true);
            List<Executable> calls = new ArrayList<>(List.of(one.getDeclaredMethods()));
            calls.addAll(List.of(one.getDeclaredConstructors()));
            for (Executable call : calls) {
                due.same("seven parameters at most: " + call, call.getParameterCount() <= 7, true);
            }
        }
    }
}
