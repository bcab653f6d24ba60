import java.io.IOException;
import java.lang.reflect.Constructor;
import java.lang.reflect.Field;
import java.lang.reflect.Method;
import java.lang.reflect.Modifier;
import java.nio.file.Files;
import java.nio.file.Path;
import java.util.HashSet;
import java.util.Set;
import java.util.TreeSet;
import java.util.regex.Matcher;
import java.util.regex.Pattern;

/** The rules of ../shared/LANGUAGE.md that a machine can look after: the face, banned words, sizes. */
public final class LanguageTest {
    private static final Path SOURCE = Path.of("src", "main", "java", "NineDancers.java");
    private static final Set<String> FACE = Set.of(
            "int NO_SUCH", "int BAD_VALUE", "int BAD_TEXT", "int TOO_MANY", "int NOT_POSSIBLE", "int NONE",
            "int TIRE", "int REST", "int BASE",
            "NineDancers()",
            "int set(int, int)", "int like(int, int, int)", "int away(int, boolean)", "int call(int)", "int read()",
            "int feed(int, int)", "int villager(int, int)", "int pair(int, int, int)", "int partner(int, int)",
            "int count(int)", "int ifCalled(int, int)", "int bestCall(int)", "int fewestRounds(int)",
            "int untilAllMet()", "int put(long)", "int wipe()", "int fault()", "int undo()", "int save(int)",
            "int restore(int)");
    private static final String[] BANNED = {
        "\\b(throw|throws|try|catch|finally|synchronized|assert|package|native|volatile|transient)\\b",
        "->", "::", "\\w+Exact\\b", "\\bequals\\b", "\\bhashCode\\b", "\\btoString\\b", "\\bnew\\s+int\\s*\\[\\s*\\]",
        "\\bSystem\\.(?!arraycopy\\b)", "\\bThread\\b", "\\bRandom\\b", "\\bObject\\b", "\\bException\\b",
        "\\bjava\\.(?!util\\.(Arrays|ArrayList|List|Iterator);)"};

    private static final Pattern METHOD =
            Pattern.compile("^( ++)(?!if|for|while|switch|\\})[\\w\\[\\] ]+\\(.*\\) \\{$");

    private static Checks checks;

    public static void main(String[] arguments) throws IOException {
        checks = new Checks("LanguageTest");
        face();
        nestedClasses();
        String source = withoutComments(Files.readString(SOURCE));
        bannedWords(source);
        staticFields();
        sizes(source);
        checks.finish();
    }

    private static void face() {
        Set<String> found = new TreeSet<>();
        for (Field field : NineDancers.class.getDeclaredFields()) {
            if (!Modifier.isPrivate(field.getModifiers())) {
                found.add(field.getType() + " " + field.getName());
                checks.holds(field + " is public, static and final", (field.getModifiers() & 31) == 25);
            }
        }
        for (Constructor<?> constructor : NineDancers.class.getDeclaredConstructors()) {
            found.add("NineDancers" + list(constructor.getParameterTypes()));
            checks.holds(constructor + " is public", Modifier.isPublic(constructor.getModifiers()));
        }
        for (Method method : NineDancers.class.getDeclaredMethods()) {
            if (!Modifier.isPrivate(method.getModifiers())) {
                found.add(method.getReturnType() + " " + method.getName() + list(method.getParameterTypes()));
                checks.holds(method + " is public", method.getModifiers() == Modifier.PUBLIC);
            }
        }
        checks.holds("the face is the document's: " + found, found.equals(FACE));
        int modifiers = NineDancers.class.getModifiers();
        checks.holds("public and final", Modifier.isPublic(modifiers) && Modifier.isFinal(modifiers));
    }

    private static String list(Class<?>[] types) {
        StringBuilder text = new StringBuilder("(");
        for (Class<?> type : types) {
            text.append(text.length() > 1 ? ", " : "").append(type.getName());
        }
        return text.append(")").toString();
    }

    private static void nestedClasses() {
        Set<String> publicNames = new HashSet<>();
        for (String member : FACE) {
            publicNames.add(member.replaceAll("\\(.*", "").replaceAll(".* ", ""));
        }
        Class<?>[] nested = NineDancers.class.getDeclaredClasses();
        checks.holds("some twelve classes", nested.length < 12);
        for (Class<?> one : nested) {
            checks.holds(one + " is static", Modifier.isStatic(one.getModifiers()));
            checks.holds(one + " is not public", !Modifier.isPublic(one.getModifiers()));
            checks.holds(one + " has some twenty fields", one.getDeclaredFields().length <= 20);
            hasOwnNames(one, publicNames);
        }
        hasOwnNames(NineDancers.class, publicNames);
    }

    private static void hasOwnNames(Class<?> owner, Set<String> publicNames) {
        for (Method method : owner.getDeclaredMethods()) {
            if (!Modifier.isPublic(method.getModifiers())) {
                checks.holds(method + " has a name of its own", !publicNames.contains(method.getName()));
            }
            checks.holds(method + " takes at most seven", method.getParameterCount() <= 7);
        }
    }

    private static void staticFields() {
        for (Field field : NineDancers.class.getDeclaredFields()) {
            if (Modifier.isStatic(field.getModifiers())) {
                checks.holds(field + " is final", Modifier.isFinal(field.getModifiers()));
            }
        }
    }

    private static void bannedWords(String source) {
        for (String word : BANNED) {
            Matcher matcher = Pattern.compile(word).matcher(source);
            checks.holds("nothing like " + word, !matcher.find());
        }
        checks.holds("signs 1 to 127 alone", source.chars().allMatch(sign -> sign >= 1 && sign <= 127));
        checks.holds("no text is joined by +", !Pattern.compile("\"\\s*\\+|\\+\\s*\"").matcher(source).find());
    }

    private static String withoutComments(String source) {
        return source.replaceAll("(?s)/\\*.*?\\*/", "").replaceAll("//[^\n]*", "");
    }

    /** Methods begin at a line that ends with "{" behind ")", and end at the same indentation. */
    private static void sizes(String source) {
        String[] lines = source.split("\n");
        for (int at = 0; at < lines.length; at++) {
            Matcher head = METHOD.matcher(lines[at]);
            if (head.matches()) {
                int end = at;
                while (end < lines.length && !lines[end].equals(head.group(1) + "}")) {
                    end++;
                }
                checks.holds("sixty lines: " + lines[at].trim(), end - at < 60);
            }
        }
    }
}
