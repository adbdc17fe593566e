import java.lang.reflect.Constructor;
import java.lang.reflect.Field;
import java.lang.reflect.Method;
import java.lang.reflect.Modifier;
import java.io.IOException;
import java.nio.file.Files;
import java.nio.file.Path;
import java.util.ArrayList;
import java.util.Collections;
import java.util.HashSet;
import java.util.List;
import java.util.Set;
import java.util.regex.Matcher;
import java.util.regex.Pattern;

/** The public face of the document, and what of ../shared/LANGUAGE.md can be seen from outside. */
public final class FaceTest {
    private static final String[] FACE = {
        "boolean step(int,int,int)", "boolean good(int,int)", "int written(int,int,int)", "int year()",
        "int feed(int,int,int,int,int)", "boolean end(int)", "int tablet(int)", "int rules()", "int fault(int)",
        "int line(int,int,int)", "long stock(int,int,int)", "boolean weight(int,int)", "boolean mark(int,int,int)",
        "boolean tell(int,int,int)", "int ball(int,int)", "int seal()", "boolean over(int,int)", "int order(int)",
        "int ahead(int,int)", "int fragment(int)", "boolean edge(int,boolean,int,int)", "int row(int,int)",
        "int person(int,int,int)", "boolean works(int,int)", "int store(int,int)", "int month(int)",
        "int ration(int,int,int)", "boolean book(int,int)", "int flock(int,int,int)",
        "boolean found(int,int,int,int,int)", "int flockAt(int,int,int,int)", "boolean interest(int,int)",
        "int loan(int,int,int)", "boolean pay(int,int,int)", "boolean edict(int)", "long owed(int,int,int)",
        "int field(int,int,int,int,int,int)", "long look(int)"};

    public static void main(String[] args) throws IOException {
        members();
        nestedClasses();
        source();
        Due.done();
    }

    private static void members() {
        int mods = ClayHouse.class.getModifiers();
        Due.is("public final", Modifier.isPublic(mods) && Modifier.isFinal(mods), true);
        List<String> methods = new ArrayList<>();
        for (Method method : ClayHouse.class.getDeclaredMethods()) {
            if (!Modifier.isPrivate(method.getModifiers())) {
                methods.add(told(method));
                Due.is("public " + method, Modifier.isPublic(method.getModifiers()), true);
                Due.is("not static " + method, Modifier.isStatic(method.getModifiers()), false);
            }
        }
        List<String> due = new ArrayList<>(List.of(FACE));
        Collections.sort(due);
        Collections.sort(methods);
        Due.is("the methods of the face " + methods, methods.equals(due), true);
        for (Field field : ClayHouse.class.getDeclaredFields()) {
            boolean face = field.getName().equals("NONE");
            Due.is("field " + field, face == !Modifier.isPrivate(field.getModifiers()), true);
            if (face) {
                Due.is("the constant", field.toString().equals("public static final int ClayHouse.NONE"), true);
            }
        }
        Constructor<?>[] constructors = ClayHouse.class.getDeclaredConstructors();
        Due.is("one constructor", constructors.length, 1);
        Due.is("public", Modifier.isPublic(constructors[0].getModifiers()), true);
        Due.is("without parameters", constructors[0].getParameterCount(), 0);
    }

    private static String told(Method method) {
        StringBuilder text = new StringBuilder(method.getReturnType().getName());
        text.append(' ').append(method.getName()).append('(');
        for (Class<?> type : method.getParameterTypes()) {
            text.append(text.charAt(text.length() - 1) == '(' ? "" : ",").append(type.getName());
        }
        return text.append(')').toString();
    }

    private static void nestedClasses() {
        Set<String> faceNames = new HashSet<>();
        for (String method : FACE) {
            faceNames.add(method.substring(method.indexOf(' ') + 1, method.indexOf('(')));
        }
        Class<?>[] nested = ClayHouse.class.getDeclaredClasses();
        Due.is("some twelve classes", nested.length + 1 <= 13, true);
        for (Class<?> type : nested) {
            Due.is("static " + type, Modifier.isStatic(type.getModifiers()), true);
            Due.is("not public " + type, Modifier.isPublic(type.getModifiers()), false);
            int fields = 0;
            for (Field field : type.getDeclaredFields()) {
                boolean isStatic = Modifier.isStatic(field.getModifiers());
                fields += isStatic ? 0 : 1;
                Due.is("static ones are final " + field, !isStatic || Modifier.isFinal(field.getModifiers()), true);
            }
            Due.is("some twenty fields in " + type, fields <= 20, true);
            for (Method method : type.getDeclaredMethods()) {
                Due.is("a name of the face " + method, faceNames.contains(method.getName()), false);
                Due.is("at most seven parameters " + method, method.getParameterCount() <= 7, true);
            }
        }
    }

    private static void source() throws IOException {
        Path path = Path.of("src/main/java/ClayHouse.java");
        String text = Files.readString(path);
        for (int i = 0; i < text.length(); i++) {
            if (text.charAt(i) > 126) {
                Due.is("a sign above 126 at " + i, true, false);
            }
        }
        String code = text.replaceAll("(?s)/\\*.*?\\*/", " ").replaceAll("//[^\n]*", " ");
        String[] banned = {"\\bthrow\\b", "\\btry\\b", "\\bcatch\\b", "\\bsynchronized\\b", "\\bassert\\b", "->", "::",
            "\\bimport\\b", "\\bpackage\\b", "\\bdouble\\b", "\\bfloat\\b", "\\btransient\\b", "\\bvolatile\\b",
            "\\bnative\\b", "Exact\\b", "\\bSystem\\.(?!arraycopy)", "\\bThread\\b", "\\bObject\\b", "@"};
        for (String word : banned) {
            Matcher matcher = Pattern.compile(word).matcher(code);
            Due.is("found in the source: " + word, matcher.find(), false);
        }
        methodsAreShort(text);
    }

    private static void methodsAreShort(String text) {
        String[] lines = text.split("\n");
        for (int i = 0; i < lines.length; i++) {
            String line = lines[i];
            int indent = line.length() - line.stripLeading().length();
            boolean opens = (indent == 4 || indent == 8) && line.endsWith("{") && !line.contains(" class ");
            if (opens) {
                String close = " ".repeat(indent) + "}";
                int size = 1;
                while (i + size < lines.length && !lines[i + size].equals(close)) {
                    size++;
                }
                Due.is("some sixty lines: " + line.strip(), size <= 60, true);
            }
        }
    }
}
