import java.io.IOException;
import java.lang.reflect.Field;
import java.lang.reflect.Method;
import java.lang.reflect.Modifier;
import java.nio.file.Files;
import java.nio.file.Path;
import java.util.ArrayList;
import java.util.Arrays;
import java.util.List;
import java.util.Set;
import java.util.TreeSet;
import java.util.regex.Matcher;
import java.util.regex.Pattern;

/** The document's face, and those rules of LANGUAGE.md that a look at the class or its text can tell. */
public final class LanguageTest {
    private static final Check CHECK = new Check("LanguageTest");
    private static final String[] FACE = {"alike/3 int", "at/2 int", "becomes/3 int", "change/1 int", "count/1 int",
        "dark/3 int", "fades/2 int", "falsePairs/2 int", "feed/1 int", "fewest/2 int", "get/2 long", "image/0 int",
        "judge/2 int", "lay/2 int", "list/2 int", "nearest/2 int", "number/3 int", "odds/7 long", "paper/1 int",
        "power/3 int", "put/3 int", "ranked/2 int", "sees/5 long", "shade/4 int", "sheet/2 int", "sheets/0 int",
        "spell/1 int", "stack/0 int", "take/1 int", "through/3 long", "undo/0 int", "was/5 int", "weight/3 int",
        "wish/3 int", "without/3 int"};
    private static final String[] CONSTANTS = {"BAD int", "FULL int", "NO long", "NONE int", "NOT int", "STATE int"};
    private static final String[] BANNED = {"throw", "throws", "try", "catch", "synchronized", "assert", "import",
        "package", "equals", "hashCode", "toString", "native", "volatile", "transient", "finally", "var"};
    private static final int MOST_LINES = 60, MOST_CLASSES = 12, MOST_FIELDS = 20, MOST_PARAMETERS = 7;

    public static void main(String[] args) throws IOException {
        face();
        classes();
        words(withoutComments(Files.readString(Path.of("src/main/java/ColourStacks.java"))));
        CHECK.done();
    }

    private static void face() {
        Class<?> face = ColourStacks.class;
        due("rule 1: final", Modifier.isFinal(face.getModifiers()));
        due("rule 1: one constructor", face.getDeclaredConstructors().length == 1);
        Set<String> methods = new TreeSet<>();
        Set<String> hidden = new TreeSet<>();
        for (Method method : face.getDeclaredMethods()) {
            if (Modifier.isPublic(method.getModifiers())) {
                methods.add(method.getName() + "/" + method.getParameterCount() + " " + method.getReturnType());
                due("no static " + method.getName(), !Modifier.isStatic(method.getModifiers()));
                for (Class<?> type : method.getParameterTypes()) due(method.getName() + " takes ints", type == int.class);
            } else {
                due("rule 1: private " + method.getName(), Modifier.isPrivate(method.getModifiers()));
                hidden.add(method.getName());
            }
        }
        due("the face " + methods, methods.equals(new TreeSet<>(Arrays.asList(FACE))));
        for (Class<?> inner : face.getDeclaredClasses()) {
            for (Method method : inner.getDeclaredMethods()) hidden.add(method.getName());
        }
        for (String method : methods) {
            due("rule 1: no other " + method, !hidden.contains(method.substring(0, method.indexOf('/'))));
        }
        Set<String> constants = new TreeSet<>();
        for (Field field : face.getDeclaredFields()) {
            if (Modifier.isPublic(field.getModifiers())) constants.add(field.getName() + " " + field.getType());
            else due("rule 1: private " + field.getName(), Modifier.isPrivate(field.getModifiers()));
        }
        due("the constants " + constants, constants.equals(new TreeSet<>(Arrays.asList(CONSTANTS))));
    }

    private static void classes() {
        List<Class<?>> all = new ArrayList<>(Arrays.asList(ColourStacks.class.getDeclaredClasses()));
        all.add(ColourStacks.class);
        due("rule 11: classes", all.size() <= MOST_CLASSES);
        for (Class<?> each : all) {
            boolean isFace = each == ColourStacks.class;
            due("rule 2: static " + each, isFace || Modifier.isStatic(each.getModifiers()));
            int own = 0;
            for (Field field : each.getDeclaredFields()) {
                boolean isStatic = Modifier.isStatic(field.getModifiers());
                if (!isStatic) own++;
                due("rule 5: final " + field, !isStatic || Modifier.isFinal(field.getModifiers()));
            }
            due("rule 11: fields of " + each, own <= MOST_FIELDS);
            for (Method method : each.getDeclaredMethods()) {
                due("rule 11: parameters of " + method, method.getParameterCount() <= MOST_PARAMETERS);
            }
        }
    }

    private static void words(String text) {
        for (String word : BANNED) due("no " + word, !Pattern.compile("\\b" + word + "\\b").matcher(text).find());
        for (String sign : new String[] {"->", "::", "@", "Exact", "double", "float"}) {
            due("no " + sign, !text.contains(sign));
        }
        Set<String> library = new TreeSet<>();
        Matcher names = Pattern.compile("\\b([A-Z][a-z]\\w*)\\.(\\w+)").matcher(text);
        while (names.find()) library.add(names.group());
        library.removeAll(Set.of("Math.abs", "Math.max", "Math.min", "Long.MIN_VALUE"));
        due("rule 4: no library but " + library, library.isEmpty());
        methods(text.split("\n"));
    }

    /** Lines of a method, and that only constructors make objects: all calls of a run share one room. */
    private static void methods(String[] lines) {
        Pattern head = Pattern.compile(" {4}( {4})?(\\w.*)\\) \\{");
        int begun = -1;
        String closing = "";
        for (int i = 0; i < lines.length; i++) {
            Matcher matcher = head.matcher(lines[i]);
            if (begun < 0 && matcher.matches()) {
                begun = i;
                closing = lines[i].substring(0, lines[i].length() - lines[i].stripLeading().length()) + "}";
            } else if (begun >= 0 && lines[i].equals(closing)) {
                due("rule 11: lines of" + lines[begun], i - begun + 1 <= MOST_LINES);
                boolean constructor = lines[begun].matches(" +(public )?[A-Z]\\w*\\(.*");
                for (int line = begun; line < i; line++) {
                    due("rule 12: no new in" + lines[line], constructor || !lines[line].matches(".*\\bnew\\b.*"));
                }
                begun = -1;
            }
        }
        due("each method ends", begun < 0);
    }

    private static String withoutComments(String text) {
        return text.replaceAll("(?s)/\\*.*?\\*/", "").replaceAll("//[^\n]*", "")
            .replaceAll("\"[^\"\n]*\"", "\"\"").replaceAll("'[^'\n]'", "' '");
    }

    private static void due(String call, boolean holds) {
        CHECK.due(call, holds ? 1 : 0, 1);
    }
}
