import java.lang.reflect.Field;
import java.lang.reflect.Method;
import java.lang.reflect.Modifier;
import java.nio.file.Files;
import java.nio.file.Path;
import java.util.List;
import java.util.Set;
import java.util.TreeSet;
import java.util.regex.Matcher;
import java.util.regex.Pattern;

/** Those rules of LANGUAGE.md that can be seen from outside or from the words of the file. */
public final class LanguageTest {
    private static final Check CHECK = new Check();

    public static void main(String[] args) throws Exception {
        words();
        for (Class<?> inside : JoinKeeper.class.getDeclaredClasses()) {
            CHECK.holds("rule 1: static and not public: " + inside,
                Modifier.isStatic(inside.getModifiers()) && !Modifier.isPublic(inside.getModifiers()));
            names(inside);
            sizes(inside);
        }
        names(JoinKeeper.class);
        sizes(JoinKeeper.class);
        CHECK.holds("rule 11: some twelve classes", JoinKeeper.class.getDeclaredClasses().length < 12);
        CHECK.end();
    }

    private static void words() throws Exception {
        String source = Files.readString(Path.of("src/main/java/JoinKeeper.java"));
        String code = source.replaceAll("(?s)/\\*.*?\\*/", "").replaceAll("//[^\n]*", "");
        for (String word : List.of("package", "throw", "throws", "try", "catch", "synchronized", "assert", "protected",
                "equals", "hashCode", "toString", "native", "volatile", "Thread", "Random")) {
            CHECK.holds("no '" + word + "'", !Pattern.compile("\\b" + word + "\\b").matcher(code).find());
        }
        CHECK.holds("rule 2: no lambda, no method reference", !code.contains("->") && !code.contains("::"));
        Matcher imports = Pattern.compile("import ([^;]*);").matcher(code);
        while (imports.find()) {
            CHECK.holds("rule 4: import " + imports.group(1),
                Set.of("java.util.Arrays", "java.util.ArrayList", "java.util.List").contains(imports.group(1)));
        }
    }

    private static void names(Class<?> owner) {
        Set<String> face = new TreeSet<>();
        for (Method method : JoinKeeper.class.getDeclaredMethods()) {
            if (Modifier.isPublic(method.getModifiers())) {
                face.add(method.getName());
            }
        }
        for (Method method : owner.getDeclaredMethods()) {
            CHECK.holds("rule 1: no other method has a public one's name: " + method,
                owner == JoinKeeper.class && Modifier.isPublic(method.getModifiers()) || !face.contains(method.getName()));
        }
    }

    private static void sizes(Class<?> owner) {
        int fields = 0;
        for (Field field : owner.getDeclaredFields()) {
            if (Modifier.isStatic(field.getModifiers())) {
                CHECK.holds("rule 5: static fields are final: " + field, Modifier.isFinal(field.getModifiers()));
            } else {
                fields++;
            }
        }
        CHECK.holds("rule 11: some twenty fields: " + owner, fields <= 20);
        for (Method method : owner.getDeclaredMethods()) {
            CHECK.holds("rule 11: at most seven parameters: " + method, method.getParameterCount() <= 7);
        }
    }
}
