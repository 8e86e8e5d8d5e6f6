import java.io.IOException;
import java.lang.reflect.Constructor;
import java.lang.reflect.Field;
import java.lang.reflect.Method;
import java.lang.reflect.Modifier;
import java.nio.file.Files;
import java.nio.file.Path;
import java.util.TreeSet;

/** The class has the public face of ../shared/DOC.md, and nothing else that can be seen from outside. */
public final class FaceTest {
    private static final Check CHECK = new Check("FaceTest");

    public static void main(String[] args) throws IOException {
        TreeSet<String> told = told();
        TreeSet<String> there = there();
        CHECK.due("members in the document", told.size(), 41);
        for (String member : told) {
            CHECK.due("is there: " + member, there.contains(member), true);
        }
        for (String member : there) {
            CHECK.due("is in the document: " + member, told.contains(member), true);
        }
        CHECK.due("public and final", FortyLetters.class.getModifiers(), Modifier.PUBLIC | Modifier.FINAL);
        for (Class<?> inside : FortyLetters.class.getDeclaredClasses()) {
            CHECK.due(inside + " is static", Modifier.isStatic(inside.getModifiers()), true);
            CHECK.due(inside + " is not public", Modifier.isPublic(inside.getModifiers()), false);
        }
        CHECK.finish();
    }

    /** "public int end(int n);" is told as "public int end(int)". */
    private static TreeSet<String> told() throws IOException {
        String text = Files.readString(Path.of("../shared/DOC.md"));
        String face = text.substring(text.indexOf("```java") + 7, text.indexOf("```", text.indexOf("```java") + 7));
        TreeSet<String> members = new TreeSet<>();
        for (String line : face.split("\n")) {
            String member = line.trim().replaceAll(" = .*|;", "").replaceAll("(int|boolean) \\w+(?=[,)])", "$1");
            if (line.startsWith("    ")) {
                members.add(member);
            }
        }
        return members;
    }

    private static TreeSet<String> there() {
        TreeSet<String> members = new TreeSet<>();
        for (Field field : FortyLetters.class.getDeclaredFields()) {
            add(members, field.getModifiers(), field.getType().getName() + " " + field.getName());
        }
        for (Constructor<?> made : FortyLetters.class.getDeclaredConstructors()) {
            add(members, made.getModifiers(), made.getName() + parameters(made.getParameterTypes()));
        }
        for (Method method : FortyLetters.class.getDeclaredMethods()) {
            add(members, method.getModifiers(),
                method.getReturnType().getName() + " " + method.getName() + parameters(method.getParameterTypes()));
        }
        return members;
    }

    private static void add(TreeSet<String> members, int modifiers, String member) {
        if (!Modifier.isPrivate(modifiers)) {
            members.add((Modifier.toString(modifiers) + " " + member).trim());
        }
    }

    private static String parameters(Class<?>[] types) {
        StringBuilder row = new StringBuilder("(");
        for (Class<?> type : types) {
            row.append(row.length() > 1 ? ", " : "").append(type.getName());
        }
        return row.append(")").toString();
    }
}
