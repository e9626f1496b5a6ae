import java.io.IOException;
import java.lang.reflect.Constructor;
import java.lang.reflect.Field;
import java.lang.reflect.Method;
import java.lang.reflect.Modifier;
import java.nio.file.Files;
import java.nio.file.Path;
import java.util.Arrays;
import java.util.List;
import java.util.Set;
import java.util.TreeSet;
import java.util.regex.Matcher;
import java.util.regex.Pattern;

/** The public face as the document prints it, and what LANGUAGE.md leaves of Java. */
public final class FaceTest {
    private static final List<String> FACE = List.of(
            "int row(int,int,int)", "int set(int,int,long)", "int copy(int,int,int,int,int)",
            "long element(int,int)", "int show(int,int)", "int holds(int)", "int says(int,int)",
            "int limit(int,int,int,int,int)", "int hidden(int,int,int,int,int)",
            "int pegged(int,int,int,int)", "int halt(int,int,int,int)", "int market(int,int,int)",
            "int read(int)", "int fault()", "int cancel(int)", "int amend(int,int,int)",
            "int rule(int)", "int uncross()", "int close()", "int crossing(int)",
            "int orderOf(int,int)", "int rank(int,int)", "int depth(int,int,int)", "int ahead(int)",
            "int sweep(int,int)", "int trades()", "int trade(int,int)", "int position(int)",
            "int cash(int)", "int judge(int,int)", "int draws(int)", "int seed(int)", "int image()",
            "int restore()", "int status(int)");

    private FaceTest() {
    }

    public static void main(String[] args) throws IOException {
        face();
        members();
        nested();
        words();
        lengths();
        Due.end();
    }

    private static void holds(String what, boolean is) {
        Due.is(what, is ? 1 : 0, 1);
    }

    private static void face() {
        Set<String> found = new TreeSet<>();
        for (Method method : UncrossedBook.class.getDeclaredMethods()) {
            if (Modifier.isPublic(method.getModifiers())) {
                StringBuilder types = new StringBuilder();
                for (Class<?> type : method.getParameterTypes()) {
                    types.append(types.length() == 0 ? "" : ",").append(type.getName());
                }
                found.add(method.getReturnType().getName() + " " + method.getName() + "(" + types + ")");
            }
        }
        holds("face: " + found, found.equals(new TreeSet<>(FACE)));
        int modifiers = UncrossedBook.class.getModifiers();
        holds("face: public", Modifier.isPublic(modifiers));
        holds("face: final", Modifier.isFinal(modifiers));
    }

    private static void members() {
        Set<String> names = new TreeSet<>();
        for (String method : FACE) {
            names.add(method.substring(method.indexOf(' ') + 1, method.indexOf('(')));
        }
        for (Method method : UncrossedBook.class.getDeclaredMethods()) {
            int modifiers = method.getModifiers();
            holds("rule 1: " + method, Modifier.isPublic(modifiers) || Modifier.isPrivate(modifiers));
            holds("rule 1: " + method, Modifier.isPublic(modifiers) || !names.contains(method.getName()));
        }
        for (Field field : UncrossedBook.class.getDeclaredFields()) {
            int modifiers = field.getModifiers();
            boolean isNone = field.getName().equals("NONE");
            holds("rule 1: " + field, isNone ? Modifier.isPublic(modifiers) : Modifier.isPrivate(modifiers));
            holds("rule 5: " + field, !Modifier.isStatic(modifiers) || Modifier.isFinal(modifiers));
        }
        Constructor<?>[] made = UncrossedBook.class.getDeclaredConstructors();
        holds("rule 1: one constructor", made.length == 1 && made[0].getParameterCount() == 0);
    }

    private static void nested() {
        Class<?>[] inside = UncrossedBook.class.getDeclaredClasses();
        holds("rule 11: some twelve classes", inside.length < 12);
        for (Class<?> one : inside) {
            holds("rule 2: " + one, Modifier.isStatic(one.getModifiers()));
            long fields = Arrays.stream(one.getDeclaredFields())
                    .filter(field -> !Modifier.isStatic(field.getModifiers())).count();
            holds("rule 11: fields of " + one, fields <= 20);
        }
    }

    private static String code() throws IOException {
        String text = Files.readString(Path.of("src/main/java/UncrossedBook.java"));
        return text.replaceAll("(?s)/\\*.*?\\*/", "").replaceAll("//[^\n]*", "");
    }

    private static void words() throws IOException {
        String code = code();
        List<String> ruledOut = List.of("throw", "throws", "try", "catch", "synchronized", "assert",
                "protected", "package", "double", "float", "var", "toString", "equals", "hashCode",
                "String", "Object", "Integer", "volatile", "\\w+Exact", "->", "::");
        for (String word : ruledOut) {
            boolean stands = Pattern.compile("(?<!\\w)" + word + "(?!\\w)").matcher(code).find();
            holds("LANGUAGE.md: " + word, !stands);
        }
        Matcher library = Pattern.compile("\\b(System|Math|Arrays)\\.(\\w+)").matcher(code);
        while (library.find()) {
            holds("rule 4: " + library.group(),
                    List.of("arraycopy", "min", "max", "abs", "fill").contains(library.group(2)));
        }
        Matcher imports = Pattern.compile("import ([^;]*);").matcher(code);
        while (imports.find()) {
            holds("rule 4: " + imports.group(), imports.group(1).equals("java.util.Arrays"));
        }
        holds("signs 1 to 127", code.chars().allMatch(sign -> sign > 0 && sign < 128));
    }

    /** Methods by their braces: how many lines, how many parameters. */
    private static void lengths() throws IOException {
        Matcher method = Pattern.compile("(?m)^( {4}| {8})(?! )[\\w\\[\\] ]+ (\\w+)\\(([^)]*)\\) \\{$")
                .matcher(code());
        String code = code();
        int found = 0;
        while (method.find()) {
            int end = code.indexOf("\n" + method.group(1) + "}", method.end());
            long lines = code.substring(method.start(), end).lines().count();
            holds("rule 11: length of " + method.group(2), lines <= 60);
            holds("rule 11: parameters of " + method.group(2), method.group(3).split(",").length <= 7);
            found++;
        }
        holds("rule 11: methods were found", found > 80);
    }
}
