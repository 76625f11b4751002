import java.lang.reflect.Constructor;
import java.lang.reflect.Field;
import java.lang.reflect.Member;
import java.lang.reflect.Method;
import java.lang.reflect.Modifier;
import java.nio.file.Files;
import java.nio.file.Path;
import java.util.HashSet;
import java.util.Set;
import java.util.regex.Matcher;
import java.util.regex.Pattern;

/** The face of the document, and the rules of LANGUAGE.md that can be told from outside. */
public final class FaceTest {
    private static final Check CHECK = new Check();

    private FaceTest() {
    }

    public static void main(String[] args) throws Exception {
        String document = Files.readString(Path.of("../shared/DOC.md"));
        face(document);
        Set<String> names = new HashSet<>();
        for (Method method : Coasterland.class.getDeclaredMethods()) {
            if (Modifier.isPublic(method.getModifiers())) {
                names.add(method.getName());
            }
        }
        noOtherMember(Coasterland.class);
        classInside(Coasterland.class, names);
        for (Class<?> inside : Coasterland.class.getDeclaredClasses()) {
            CHECK.holds("rule 1: " + inside, Modifier.isStatic(inside.getModifiers())
                    && !Modifier.isPublic(inside.getModifiers()) && !Modifier.isProtected(inside.getModifiers()));
            classInside(inside, names);
        }
        CHECK.holds("rule 11: classes", Coasterland.class.getDeclaredClasses().length <= 12);
        source(Files.readString(Path.of("src/main/java/Coasterland.java")));
        CHECK.end();
    }

    private static void face(String document) {
        int start = document.indexOf("public final class Coasterland {");
        String text = document.substring(start, document.indexOf("```", start));
        Matcher signature = Pattern.compile("    public (\\w+ )?(\\w+)\\(([^)]*)\\)( throws [^;]*)?;").matcher(text);
        Set<String> due = new HashSet<>();
        while (signature.find()) {
            String thrown = signature.group(4) == null ? "" : signature.group(4).substring(8).replace(" ", "");
            String types = signature.group(3).replaceAll(" \\w+(, |$)", ",").replaceAll(",$", "");
            due.add((signature.group(1) == null ? "" : signature.group(1)) + signature.group(2) + "(" + types + ")"
                    + thrown);
        }
        Set<String> got = new HashSet<>();
        for (Method method : Coasterland.class.getDeclaredMethods()) {
            if (Modifier.isPublic(method.getModifiers())) {
                got.add(method.getReturnType() + " " + method.getName() + tail(method.getParameterTypes(),
                        method.getExceptionTypes()));
            }
        }
        for (Constructor<?> constructor : Coasterland.class.getConstructors()) {
            got.add("Coasterland" + tail(constructor.getParameterTypes(), constructor.getExceptionTypes()));
        }
        CHECK.is("the number of methods in the document", 44, due.size());
        CHECK.is("the face", due, got);
        CHECK.is("the class", Modifier.PUBLIC | Modifier.FINAL, Coasterland.class.getModifiers());
    }

    private static String tail(Class<?>[] parameters, Class<?>[] thrown) {
        return "(" + names(parameters) + ")" + names(thrown);
    }

    private static String names(Class<?>[] types) {
        StringBuilder text = new StringBuilder();
        for (Class<?> type : types) {
            text.append(text.length() == 0 ? "" : ",").append(type.getSimpleName());
        }
        return text.toString();
    }

    private static void noOtherMember(Class<?> face) {
        for (Field field : face.getDeclaredFields()) {
            CHECK.holds("rule 1: " + field, Modifier.isPrivate(field.getModifiers()));
        }
        for (Method method : face.getDeclaredMethods()) {
            CHECK.holds("rule 1: " + method, method.isSynthetic() || Modifier.isPublic(method.getModifiers())
                    || Modifier.isPrivate(method.getModifiers()));
        }
    }

    private static void classInside(Class<?> type, Set<String> publicNames) {
        int fields = 0;
        for (Field field : type.getDeclaredFields()) {
            if (Modifier.isStatic(field.getModifiers())) {
                CHECK.holds("rule 5: " + field, Modifier.isFinal(field.getModifiers())
                        && (field.getType().isPrimitive() || field.getType() == String.class));
            } else {
                fields++;
            }
        }
        CHECK.holds("rule 11: fields of " + type, fields <= 20);
        for (Method method : type.getDeclaredMethods()) {
            CHECK.holds("rule 11: " + method, method.getParameterCount() <= 7);
            CHECK.holds("rule 1: " + method, isPublicMember(method) || !publicNames.contains(method.getName()));
        }
    }

    private static boolean isPublicMember(Member member) {
        return Modifier.isPublic(member.getModifiers());
    }

    private static void source(String text) {
        String code = text.replaceAll("(?s)/\\*.*?\\*/", "").replaceAll("//[^\n]*", "")
                .replaceAll("\"[^\"\n]*\"", "\"\"").replaceAll("'.'", "'c'");
        String[] banned = {"->", "::", "\\btry\\b", "\\bcatch\\b", "\\bfinally\\b", "\\bsynchronized\\b",
            "\\bassert\\b", "\\bvar\\b", "\\bpackage\\b", "@", "\\bThread\\b",
            "\\bSystem\\b(?!\\.arraycopy)", "Exact\\b", "\\bRandom\\b", "\\btransient\\b", "\\bvolatile\\b", "\\bnative\\b", "\"\\s*\\+", "\\+\\s*\"",
            "\\bstatic\\s*\\{", "\\bObject\\b", "\\bwhile\\s*\\(true\\)", "for\\s*\\(;;"};
        for (String pattern : banned) {
            CHECK.is("LANGUAGE.md: " + pattern, false, Pattern.compile(pattern).matcher(code).find());
        }
        Matcher imported = Pattern.compile("import ([\\w.]+);").matcher(code);
        while (imported.find()) {
            CHECK.is("rule 4: import", "java.util.NoSuchElementException", imported.group(1));
        }
        for (char sign : text.toCharArray()) {
            if (sign > 126) {
                CHECK.is("a sign of the source", "up to 126", (int) sign);
            }
        }
        shortMethods(code);
    }

    private static void shortMethods(String code) {
        String[] lines = code.split("\n");
        int start = 0;
        for (int i = 0; i < lines.length; i++) {
            if (lines[i].matches("( {4}| {8})[\\w ]+\\(.*")) {
                start = i;
            }
            if (lines[i].matches("( {4}| {8})\\}")) {
                CHECK.holds("rule 11: the method in line " + start, i - start <= 60 || lines[i].equals("    }"));
            }
        }
    }
}
