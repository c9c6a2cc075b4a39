import java.io.IOException;
import java.lang.reflect.Constructor;
import java.lang.reflect.Field;
import java.lang.reflect.Method;
import java.lang.reflect.Modifier;
import java.nio.file.Files;
import java.nio.file.Path;
import java.util.ArrayList;
import java.util.Arrays;
import java.util.HashSet;
import java.util.List;
import java.util.Set;
import java.util.TreeSet;
import java.util.regex.Matcher;
import java.util.regex.Pattern;

/** The face as the document has it, and those rules of LANGUAGE.md that can be read off the class or its text. */
public final class FaceTests {
    private static final String INDEX = " IndexOutOfBoundsException";
    private static final String ARGUMENT = " IllegalArgumentException";
    private static final String UNSUPPORTED = " UnsupportedOperationException";
    private static final String STATE = " IllegalStateException";
    private static final String NO_ELEMENT = " NoSuchElementException";
    private static final String[] FACE = {
        "int panel(int)" + INDEX + STATE,
        "int spot(int,int,int,int,int,boolean)" + INDEX + ARGUMENT + UNSUPPORTED + STATE,
        "int spots(int)" + INDEX,
        "boolean isHeld(int)" + INDEX,
        "int station()" + STATE,
        "int robot(int,int,int)" + INDEX + ARGUMENT + UNSUPPORTED + STATE,
        "boolean reaches(int,int)" + INDEX + ARGUMENT,
        "int swept(int,int)" + ARGUMENT,
        "int current(int,int)" + INDEX + ARGUMENT,
        "int step(int,int,char,int)" + INDEX + ARGUMENT + UNSUPPORTED + STATE,
        "int erase(int,int)" + INDEX,
        "int steps(int,int)" + INDEX,
        "int welds(int,int)" + INDEX,
        "char proof(int,int)" + INDEX,
        "int states(int,int)" + INDEX,
        "int uncovered(int)" + INDEX,
        "int deal(int)" + INDEX,
        "int order(int)" + INDEX + STATE,
        "int beat()" + UNSUPPORTED,
        "int beats()",
        "int at(int)" + INDEX + NO_ELEMENT,
        "int where(int)" + INDEX,
        "int waiting()",
        "boolean stand(int,boolean)" + INDEX,
        "int letters(int,char)" + INDEX + ARGUMENT,
        "boolean die(int,boolean)" + INDEX,
        "int standIn(int,int)" + INDEX + ARGUMENT,
        "int wear(int)" + INDEX,
        "int dress(int)" + INDEX + UNSUPPORTED,
        "int change(int)" + INDEX,
        "int made(int)" + INDEX,
        "int lacks(int)" + INDEX,
        "boolean isLacking(int,int)" + INDEX,
        "int firstLacking(int)" + INDEX + NO_ELEMENT,
        "int mend(int,int)" + INDEX + UNSUPPORTED,
        "int maker(int,int)" + INDEX + NO_ELEMENT,
        "int whole()",
        "int offset(int,int)" + INDEX + ARGUMENT,
        "int measure(int)" + INDEX + NO_ELEMENT,
        "int feedBack(int,int)" + INDEX + ARGUMENT + NO_ELEMENT,
        "long checksum()",
        "float wholeShare()" + NO_ELEMENT,
        "double meanMeasure()" + NO_ELEMENT,
        "boolean isSound()",
    };

    private static final Check CHECK = new Check("FaceTests");

    public static void main(String[] args) throws IOException {
        faceIsTheDocuments();
        constructorIsAlone();
        nothingElseIsSeen();
        innerClassesAreHidden();
        textKeepsToTheLanguage();
        methodsAreShort();
        CHECK.close();
    }

    private static String told(Method method) {
        List<String> types = new ArrayList<>();
        for (Class<?> type : method.getParameterTypes()) {
            types.add(type.getSimpleName());
        }
        StringBuilder told = new StringBuilder(method.getReturnType().getSimpleName());
        told.append(' ').append(method.getName()).append('(').append(String.join(",", types)).append(')');
        for (Class<?> type : method.getExceptionTypes()) {
            told.append(' ').append(type.getSimpleName());
        }
        return told.toString();
    }

    private static void faceIsTheDocuments() {
        Set<String> got = new TreeSet<>();
        for (Method method : Spotbeat.class.getDeclaredMethods()) {
            if (Modifier.isPublic(method.getModifiers())) {
                got.add(told(method));
            }
        }
        CHECK.same("the face", new TreeSet<>(Arrays.asList(FACE)), got);
    }

    private static void constructorIsAlone() {
        Constructor<?>[] all = Spotbeat.class.getDeclaredConstructors();
        CHECK.same("constructors", 1, all.length);
        CHECK.same("public one", true, Modifier.isPublic(all[0].getModifiers()));
        CHECK.same("without arguments", 0, all[0].getParameterCount());
        CHECK.same("final class", true, Modifier.isFinal(Spotbeat.class.getModifiers()));
    }

    private static void nothingElseIsSeen() {
        Set<String> names = new HashSet<>();
        for (String line : FACE) {
            names.add(line.substring(line.indexOf(' ') + 1, line.indexOf('(')));
        }
        List<Class<?>> all = new ArrayList<>(Arrays.asList(Spotbeat.class.getDeclaredClasses()));
        all.add(Spotbeat.class);
        for (Class<?> type : all) {
            for (Method method : type.getDeclaredMethods()) {
                boolean open = type == Spotbeat.class && Modifier.isPublic(method.getModifiers());
                boolean hidden = type != Spotbeat.class || Modifier.isPrivate(method.getModifiers());
                CHECK.same("hidden " + method, true, open || hidden);
                CHECK.same("own name " + method, true, open || !names.contains(method.getName()));
                CHECK.same("parameters " + method, true, method.getParameterCount() <= 7);
            }
            int fields = 0;
            for (Field field : type.getDeclaredFields()) {
                int modifiers = field.getModifiers();
                fields += Modifier.isStatic(modifiers) ? 0 : 1;
                CHECK.same("static is final " + field, true, !Modifier.isStatic(modifiers) || Modifier.isFinal(modifiers));
                CHECK.same("private " + field, true, type != Spotbeat.class || Modifier.isPrivate(modifiers));
            }
            CHECK.same("some twenty fields " + type, true, fields <= 20);
        }
    }

    private static void innerClassesAreHidden() {
        for (Class<?> type : Spotbeat.class.getDeclaredClasses()) {
            CHECK.same("static " + type, true, Modifier.isStatic(type.getModifiers()));
            CHECK.same("not public " + type, false, Modifier.isPublic(type.getModifiers()));
        }
        CHECK.same("some twelve classes", true, Spotbeat.class.getDeclaredClasses().length < 12);
    }

    private static String code() throws IOException {
        String text = Files.readString(Path.of("src/main/java/Spotbeat.java"));
        return text.replaceAll("(?s)/\\*.*?\\*/", "").replaceAll("//[^\n]*", "");
    }

    private static void textKeepsToTheLanguage() throws IOException {
        String code = code();
        String[] banned = {
            "->", "::", "\\btry\\b", "\\bcatch\\b", "\\bfinally\\b", "\\bsynchronized\\b", "\\bassert\\b", "\\bthis\\)",
            "\\bMath\\.\\w+Exact\\b", "\\bSystem\\b", "\\bThread\\b", "\\bString\\.format\\b", "\\bpackage\\b",
            "\\bnative\\b", "\\bvolatile\\b", "\\btransient\\b", "\\bstatic\\s*\\{", "\\bequals\\b", "\\bhashCode\\b",
            "\\btoString\\b", "\\bimport static\\b", "\\bvar\\b", "\"\\s*\\+", "\\+\\s*\"", "\\bimport (?!java\\.util\\.NoSuchElementException;)",
        };
        for (String word : banned) {
            CHECK.same("no " + word, false, Pattern.compile(word).matcher(code).find());
        }
        Matcher thrown = Pattern.compile("throw\\s+new\\s+(\\w+)").matcher(code);
        List<String> allowed = List.of("IllegalStateException", "IllegalArgumentException", "IndexOutOfBoundsException",
                "UnsupportedOperationException", "NoSuchElementException");
        while (thrown.find()) {
            CHECK.same("may be thrown: " + thrown.group(1), true, allowed.contains(thrown.group(1)));
        }
        for (char sign : code.toCharArray()) {
            if (sign > 126) {
                CHECK.same("plain signs", "none beyond 126", (int) sign);
            }
        }
    }

    private static void methodsAreShort() throws IOException {
        int length = 0;
        int longest = 0;
        for (String line : code().split("\n")) {
            boolean end = line.matches(" {4}( {4})?\\}");
            length = line.isBlank() || end ? 0 : length + 1;
            longest = Math.max(longest, length);
        }
        CHECK.same("short methods", true, longest <= 60);
    }
}
