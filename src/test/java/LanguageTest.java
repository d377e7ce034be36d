import java.io.IOException;
import java.lang.reflect.Constructor;
import java.lang.reflect.Field;
import java.lang.reflect.Method;
import java.lang.reflect.Modifier;
import java.nio.file.Files;
import java.nio.file.Path;
import java.util.ArrayList;
import java.util.Arrays;
import java.util.List;
import java.util.TreeSet;
import java.util.regex.Matcher;
import java.util.regex.Pattern;

/** The document's public face, and those rules of LANGUAGE.md that the compiled class or its text shows. */
final class LanguageTest {
    private static final Check CHECK = new Check("LanguageTest");
    private static final String[] FACE = {"building(int,int,int)int", "wall(int,int,boolean)int",
        "lift(int,int,boolean)int", "stay(int)int", "step(int,int)int", "far(int,int)int", "dead(int,boolean)int",
        "survey(int,int,int)int", "weight(int,int,int)int", "offset(int,int,int)int", "alike()int", "known(int)int",
        "lead(int)int", "hear(int,int,int)int", "share(int)int", "likeliest()int", "within(int,int,int,int,int)int",
        "sure(int)int", "best(int)int", "way(int)int", "learn(int)int", "moved(int)int", "put(int,int)int",
        "least(int)int", "give(int,int,int,int,int)int", "sheet(int,int,int)int", "lose(int)int",
        "lay(int,int,int,int)int", "get(int,int,int)int", "copy(int,int,int,int,int)int", "count(int)int", "digest()long"};
    private static final String[] FORBIDDEN = {"throw", "throws", "try", "catch", "finally", "synchronized", "assert",
        "volatile", "transient", "native", "strictfp", "protected", "Object", "Exception", "Error", "Thread", "Random",
        "Class", "Character", "Boolean", "Double", "Float", "Short", "Byte"};
    /** What LANGUAGE.md lets the class take from the library by a class's name: rule 4. */
    private static final String LIBRARY = "(Math|Integer|Long)\\.(?!\\w*Exact\\b)\\w+|System\\.arraycopy"
        + "|Arrays\\.(copyOf|copyOfRange|fill)|List\\.of";
    private static final List<String> IMPORTS = List.of("java.util.Arrays", "java.util.ArrayList", "java.util.List",
        "java.util.Iterator");

    public static void main(String[] args) throws IOException {
        methods();
        fieldsAndConstructors();
        classesInside();
        text(Files.readString(Path.of("src/main/java/InsidePlaces.java")));
        CHECK.end();
    }

    private static void methods() {
        TreeSet<String> face = new TreeSet<>();
        TreeSet<String> names = new TreeSet<>();
        for (Method method : InsidePlaces.class.getDeclaredMethods()) {
            if (Modifier.isPublic(method.getModifiers())) {
                List<String> types = new ArrayList<>();
                for (Class<?> type : method.getParameterTypes()) {
                    types.add(type.getName());
                }
                face.add(method.getName() + "(" + String.join(",", types) + ")" + method.getReturnType().getName());
                names.add(method.getName());
                CHECK.that(method + " is of the object", !Modifier.isStatic(method.getModifiers()));
            }
        }
        CHECK.that("the face is as told: " + face, face.equals(new TreeSet<>(Arrays.asList(FACE))));
        for (Method method : InsidePlaces.class.getDeclaredMethods()) {
            if (!Modifier.isPublic(method.getModifiers())) {
                CHECK.that(method + " is private", Modifier.isPrivate(method.getModifiers()));
                CHECK.that(method + " has a name of its own", !names.contains(method.getName()));
            }
        }
    }

    private static void fieldsAndConstructors() {
        CHECK.due("NONE", InsidePlaces.NONE, -1);
        CHECK.due("BAD", InsidePlaces.BAD, -2);
        CHECK.due("NOT", InsidePlaces.NOT, -3);
        CHECK.due("FULL", InsidePlaces.FULL, -4);
        TreeSet<String> shown = new TreeSet<>();
        for (Field field : InsidePlaces.class.getDeclaredFields()) {
            int modifiers = field.getModifiers();
            if (Modifier.isPublic(modifiers)) {
                shown.add(field.getName());
                CHECK.that(field + " is a constant", Modifier.isStatic(modifiers) && Modifier.isFinal(modifiers));
            } else {
                CHECK.that(field + " is private", Modifier.isPrivate(modifiers));
            }
            CHECK.that(field + " is no static state", !Modifier.isStatic(modifiers) || Modifier.isFinal(modifiers));
        }
        CHECK.that("the constants are as told: " + shown, shown.equals(new TreeSet<>(List.of("NONE", "BAD", "NOT", "FULL"))));
        Constructor<?>[] constructors = InsidePlaces.class.getDeclaredConstructors();
        CHECK.due("constructors", constructors.length, 1);
        CHECK.that("the constructor is public", Modifier.isPublic(constructors[0].getModifiers()));
        CHECK.due("its parameters", constructors[0].getParameterCount(), 0);
        int modifiers = InsidePlaces.class.getModifiers();
        CHECK.that("the class is public and final", Modifier.isPublic(modifiers) && Modifier.isFinal(modifiers));
    }

    private static void classesInside() {
        Class<?>[] inside = InsidePlaces.class.getDeclaredClasses();
        CHECK.that("at most twelve classes", inside.length + 1 <= 12);
        for (Class<?> one : inside) {
            int modifiers = one.getModifiers();
            CHECK.that(one + " is static", Modifier.isStatic(modifiers));
            CHECK.that(one + " is hidden", !Modifier.isPublic(modifiers) && !Modifier.isProtected(modifiers));
            int fields = 0;
            for (Field field : one.getDeclaredFields()) {
                boolean isStatic = Modifier.isStatic(field.getModifiers());
                CHECK.that(field + " is no static state", !isStatic || Modifier.isFinal(field.getModifiers()));
                fields += isStatic ? 0 : 1;
            }
            CHECK.that(one + " has at most twenty fields", fields <= 20);
        }
    }

    private static void text(String source) {
        CHECK.that("signs 1 to 127", source.chars().allMatch(sign -> sign >= 1 && sign <= 127));
        String code = source.replaceAll("(?s)/\\*.*?\\*/", " ").replaceAll("//[^\n]*", " ")
            .replaceAll("\"(\\\\.|[^\"\\\\\n])*\"", "TEXT");
        for (String word : FORBIDDEN) {
            CHECK.that("no " + word, !Pattern.compile("\\b" + word + "\\b").matcher(code).find());
        }
        CHECK.that("no lambda, no method reference", !code.contains("->") && !code.contains("::"));
        CHECK.that("no package line", !Pattern.compile("(?m)^\\s*package\\b").matcher(code).find());
        CHECK.that("no static block", !Pattern.compile("\\bstatic\\s*\\{").matcher(code).find());
        Matcher imports = Pattern.compile("\\bimport\\s+([^;]+);").matcher(code);
        while (imports.find()) {
            CHECK.that("import " + imports.group(1), IMPORTS.contains(imports.group(1)));
        }
        Matcher calls = Pattern.compile("\\b(?:Math|System|Arrays|Integer|Long|List)\\.\\w+").matcher(code);
        while (calls.find()) {
            CHECK.that("library: " + calls.group(), calls.group().matches(LIBRARY));
        }
        methodLengths(code.split("\n"));
    }

    /** A method opens with a line that ends in ") {" outside one, and ends where its brace closes. */
    private static void methodLengths(String[] lines) {
        Pattern head = Pattern.compile("^( {4}| {8})(?!(?:if|for|while|switch)\\b)(?=\\w)[\\w\\[\\]<> ]+\\(([^()]*)\\) \\{\\s*$");
        for (int i = 0; i < lines.length; i++) {
            Matcher matcher = head.matcher(lines[i]);
            if (matcher.matches()) {
                int end = i;
                while (end < lines.length && !lines[end].matches(matcher.group(1) + "}\\s*")) {
                    end++;
                }
                CHECK.that(lines[i].trim() + " is short", end - i <= 60);
                CHECK.that(lines[i].trim() + " has few parameters", matcher.group(2).split(",").length <= 7);
            }
        }
    }
}
