import java.lang.reflect.Constructor;
import java.lang.reflect.Executable;
import java.lang.reflect.Field;
import java.lang.reflect.Method;
import java.lang.reflect.Modifier;
import java.nio.file.Files;
import java.nio.file.Path;
import java.util.ArrayList;
import java.util.Arrays;
import java.util.List;
import java.util.Set;
import java.util.TreeSet;
import java.util.regex.Matcher;
import java.util.regex.Pattern;

/** The face is the document's, and what of LANGUAGE.md can be seen without reading the code. */
public final class LanguageTest {
    private static final Path SOURCE = Path.of("src/main/java/ElephantLine.java");
    private static final Path DOCUMENT = Path.of("../shared/DOC.md");
    private static final List<String> FORBIDDEN = List.of("->", "::", "\\btry\\b", "\\bcatch\\b", "\\bfinally\\b",
        "\\bsynchronized\\b", "\\bassert\\b", "\\bvolatile\\b", "\\btransient\\b", "\\bnative\\b", "\\bprotected\\b",
        "\\bvar\\b", "\\bdouble\\b", "\\bfloat\\b", "\\bSystem\\.(?!arraycopy)", "\\bThread\\b", "\\bRandom\\b",
        "\\binstanceof\\b", "\\bObject\\b", "\\bpackage\\b", "Exact\\b", "\\bstatic\\s*\\{", "\\bequals\\b");

    public static void main(String[] args) throws Exception {
        face();
        members();
        classes();
        words();
        Check.end("LanguageTest");
    }

    private static void say(String what, boolean is) {
        Check.due(what, true, is);
    }

    private static void face() throws Exception {
        Set<String> due = new TreeSet<>();
        Matcher m = Pattern.compile("(?m)^    public (.*);$").matcher(Files.readString(DOCUMENT));
        while (m.find()) {
            due.add(m.group(1).replaceAll(" = .*| throws .*", "").replaceAll("(int|boolean|long) \\w+(?=[,)])", "$1"));
        }
        Set<String> has = new TreeSet<>();
        for (Method method : ElephantLine.class.getDeclaredMethods()) {
            if (Modifier.isPublic(method.getModifiers())) {
                has.add(method.getReturnType() + " " + method.getName() + parameters(method));
            }
        }
        for (Constructor<?> made : ElephantLine.class.getDeclaredConstructors()) {
            has.add("ElephantLine" + parameters(made));
        }
        has.add("static final int NONE");
        say("the document has a face", due.size() == 53);
        say("the face is the document's: " + has + " " + due, has.equals(due));
        say("public and final", Modifier.isPublic(ElephantLine.class.getModifiers())
            && Modifier.isFinal(ElephantLine.class.getModifiers()));
        Check.due("NONE", -1, ElephantLine.NONE);
    }

    private static String parameters(Executable of) {
        List<String> types = new ArrayList<>();
        for (Class<?> type : of.getParameterTypes()) {
            types.add(type.getName());
        }
        return "(" + String.join(", ", types) + ")";
    }

    private static void members() {
        Set<String> open = new TreeSet<>();
        for (Method method : ElephantLine.class.getDeclaredMethods()) {
            if (Modifier.isPublic(method.getModifiers())) {
                open.add(method.getName());
            } else {
                say(method + " is private", Modifier.isPrivate(method.getModifiers()));
            }
        }
        for (Field field : ElephantLine.class.getDeclaredFields()) {
            say(field + " is private, or NONE", Modifier.isPrivate(field.getModifiers()) || field.getName().equals("NONE"));
        }
        for (Class<?> type : allClasses()) {
            for (Method method : type.getDeclaredMethods()) {
                say(method + " has at most seven parameters", method.getParameterCount() <= 7);
                say(method + " isn't made by the compiler", !method.isSynthetic());
                boolean isOpen = type == ElephantLine.class && Modifier.isPublic(method.getModifiers());
                say(method + " bears no public one's name", isOpen || !open.contains(method.getName()));
            }
        }
    }

    private static List<Class<?>> allClasses() {
        List<Class<?>> all = new ArrayList<>(Arrays.asList(ElephantLine.class.getDeclaredClasses()));
        all.add(ElephantLine.class);
        return all;
    }

    private static void classes() {
        say("some twelve classes", allClasses().size() <= 12);
        for (Class<?> type : allClasses()) {
            int kept = 0;
            for (Field field : type.getDeclaredFields()) {
                boolean isStatic = Modifier.isStatic(field.getModifiers());
                say(field + " is final if static", !isStatic || Modifier.isFinal(field.getModifiers()));
                kept += isStatic ? 0 : 1;
            }
            say(type + " has some twenty fields", kept <= 20);
            say(type + " is static", type == ElephantLine.class || Modifier.isStatic(type.getModifiers()));
        }
    }

    private static void words() throws Exception {
        String source = Files.readString(SOURCE);
        say("signs 10 and 32 to 126 alone", source.matches("[\n -~]*"));
        String code = source.replaceAll("(?s)/\\*.*?\\*/", "").replaceAll("//.*", "").replaceAll("\"[^\"\n]*\"", "\"\"");
        for (String word : FORBIDDEN) {
            say("no " + word, !Pattern.compile(word).matcher(code).find());
        }
        Matcher imports = Pattern.compile("(?m)^import (.*);").matcher(code);
        while (imports.find()) {
            Check.due("import " + imports.group(1), true, imports.group(1).equals("java.util.NoSuchElementException"));
        }
        methodLengths(source.split("\n"));
    }

    private static void methodLengths(String[] lines) {
        int start = 0;
        for (int i = 0; i < lines.length; i++) {
            if (lines[i].matches(" {4}( {4})?\\w.*\\) (throws \\w+ )?\\{")) {
                start = i;
            }
            if (lines[i].matches(" {4}( {4})?\\}")) {
                say("some sixty lines at most from line " + (start + 1), i - start <= 60);
                start = i;
            }
        }
    }
}
