import java.io.IOException;
import java.lang.reflect.Constructor;
import java.lang.reflect.Executable;
import java.lang.reflect.Field;
import java.lang.reflect.Method;
import java.lang.reflect.Modifier;
import java.nio.file.Files;
import java.nio.file.Path;
import java.util.ArrayList;
import java.util.List;
import java.util.StringJoiner;
import java.util.TreeSet;

/** The class against the document's code block 'The public face': every member with its types and what it may throw. */
public final class FaceTest extends Check {
    public static void main(String[] args) throws IOException, IllegalAccessException {
        current = "the public face";
        TreeSet<String> due = documented();
        TreeSet<String> there = written();
        due("members in the document", due.size(), 47);
        for (String member : due) due(member, there.contains(member) ? 1 : 0, 1);
        there.removeAll(due);
        due("members that are not in the document", "" + there, "[]");
        due("modifiers of the class", Modifier.toString(TakerTown.class.getModifiers()), "public final");
        due("package of the class", TakerTown.class.getPackageName(), "");
        insides();
        end("the face is the document's");
    }

    private static TreeSet<String> documented() throws IOException {
        String doc = Files.readString(Path.of("../shared/DOC.md"));
        String block = doc.substring(doc.indexOf("public final class TakerTown {"), doc.indexOf("## Terms"));
        TreeSet<String> members = new TreeSet<>();
        for (String line : block.split("\n")) {
            String member = line.trim();
            if (!member.startsWith("public ") || !member.endsWith(";")) continue;
            // The names of the parameters are free.
            members.add(member.replaceAll("\\bint [a-z]+(?=[,)])", "int").replaceAll(";$", ""));
        }
        return members;
    }

    private static TreeSet<String> written() throws IllegalAccessException {
        TreeSet<String> members = new TreeSet<>();
        for (Field field : TakerTown.class.getDeclaredFields()) {
            boolean open = !Modifier.isPrivate(field.getModifiers());
            if (open) members.add(Modifier.toString(field.getModifiers()) + " " + field.getType() + " " + field.getName()
                + " = " + field.get(null));
        }
        for (Constructor<?> maker : TakerTown.class.getDeclaredConstructors()) {
            members.add(Modifier.toString(maker.getModifiers()) + " " + signature("TakerTown", maker));
        }
        for (Method method : TakerTown.class.getDeclaredMethods()) {
            if (Modifier.isPrivate(method.getModifiers())) continue;
            members.add(Modifier.toString(method.getModifiers()) + " " + method.getReturnType() + " "
                + signature(method.getName(), method));
        }
        return members;
    }

    private static String signature(String name, Executable member) {
        StringJoiner types = new StringJoiner(", ", name + "(", ")");
        for (Class<?> type : member.getParameterTypes()) types.add(type.getSimpleName());
        List<String> thrown = new ArrayList<>();
        for (Class<?> type : member.getExceptionTypes()) thrown.add(type.getSimpleName());
        return types + (thrown.isEmpty() ? "" : " throws " + String.join(", ", thrown));
    }

    /** LANGUAGE.md, rule 1 and 11: classes inside are static and private or package-visible; at most some twenty fields. */
    private static void insides() {
        List<Class<?>> all = new ArrayList<>(List.of(TakerTown.class.getDeclaredClasses()));
        for (Class<?> inside : all) {
            int modifiers = inside.getModifiers();
            due(inside + " is static, and neither public nor protected", Modifier.isStatic(modifiers)
                && !Modifier.isPublic(modifiers) && !Modifier.isProtected(modifiers) ? 1 : 0, 1);
        }
        all.add(TakerTown.class);
        for (Class<?> one : all) {
            int fields = 0;
            for (Field field : one.getDeclaredFields()) {
                if (Modifier.isStatic(field.getModifiers())) {
                    due(field + " is final", Modifier.isFinal(field.getModifiers()) ? 1 : 0, 1);
                } else {
                    fields++;
                }
            }
            due(one + ", fields beyond twenty", Math.max(0, fields - 20), 0);
        }
    }
}
