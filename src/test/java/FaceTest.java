import java.lang.reflect.Constructor;
import java.lang.reflect.Field;
import java.lang.reflect.Member;
import java.lang.reflect.Method;
import java.lang.reflect.Modifier;
import java.nio.file.Files;
import java.nio.file.Path;
import java.util.HashSet;
import java.util.Set;
import java.util.regex.Matcher;
import java.util.regex.Pattern;

/** The face of the document, and that there is no more to it (LANGUAGE.md, rule 1). */
public final class FaceTest {
    private static final Check CHECK = new Check();

    private FaceTest() {
    }

    public static void main(String[] args) throws Exception {
        String document = Files.readString(Path.of("../shared/DOC.md"));
        face(document);
        Set<String> names = new HashSet<>();
        for (Method method : Coasterland.class.getDeclaredMethods()) {
            if (Modifier.isPublic(method.getModifiers())) {
                names.add(method.getName());
            }
        }
        noOtherMember(Coasterland.class);
        noNameOfTheFace(Coasterland.class, names);
        for (Class<?> inside : Coasterland.class.getDeclaredClasses()) {
            CHECK.holds("rule 1: " + inside, Modifier.isStatic(inside.getModifiers())
                    && !Modifier.isPublic(inside.getModifiers()) && !Modifier.isProtected(inside.getModifiers()));
            noNameOfTheFace(inside, names);
        }
        CHECK.end();
    }

    private static void face(String document) {
        int start = document.indexOf("public final class Coasterland {");
        String text = document.substring(start, document.indexOf("```", start));
        Matcher signature = Pattern.compile("    public (\\w+ )?(\\w+)\\(([^)]*)\\)( throws [^;]*)?;").matcher(text);
        Set<String> due = new HashSet<>();
        while (signature.find()) {
            String thrown = signature.group(4) == null ? "" : signature.group(4).substring(8).replace(" ", "");
            String types = signature.group(3).replaceAll(" \\w+(, |$)", ",").replaceAll(",$", "");
            due.add((signature.group(1) == null ? "" : signature.group(1)) + signature.group(2) + "(" + types + ")"
                    + thrown);
        }
        Set<String> got = new HashSet<>();
        for (Method method : Coasterland.class.getDeclaredMethods()) {
            if (Modifier.isPublic(method.getModifiers())) {
                got.add(method.getReturnType() + " " + method.getName() + tail(method.getParameterTypes(),
                        method.getExceptionTypes()));
            }
        }
        for (Constructor<?> constructor : Coasterland.class.getConstructors()) {
            got.add("Coasterland" + tail(constructor.getParameterTypes(), constructor.getExceptionTypes()));
        }
        CHECK.is("the number of methods in the document", 44, due.size());
        CHECK.is("the face", due, got);
        CHECK.is("the class", Modifier.PUBLIC | Modifier.FINAL, Coasterland.class.getModifiers());
    }

    private static String tail(Class<?>[] parameters, Class<?>[] thrown) {
        return "(" + names(parameters) + ")" + names(thrown);
    }

    private static String names(Class<?>[] types) {
        StringBuilder text = new StringBuilder();
        for (Class<?> type : types) {
            text.append(text.length() == 0 ? "" : ",").append(type.getSimpleName());
        }
        return text.toString();
    }

    private static void noOtherMember(Class<?> face) {
        for (Field field : face.getDeclaredFields()) {
            CHECK.holds("rule 1: " + field, Modifier.isPrivate(field.getModifiers()));
        }
        for (Method method : face.getDeclaredMethods()) {
            CHECK.holds("rule 1: " + method, method.isSynthetic() || Modifier.isPublic(method.getModifiers())
                    || Modifier.isPrivate(method.getModifiers()));
        }
    }

    private static void noNameOfTheFace(Class<?> type, Set<String> publicNames) {
        for (Method method : type.getDeclaredMethods()) {
            CHECK.holds("rule 1: " + method, isPublicMember(method) || !publicNames.contains(method.getName()));
        }
    }

    private static boolean isPublicMember(Member member) {
        return Modifier.isPublic(member.getModifiers());
    }
}
