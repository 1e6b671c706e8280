import java.lang.reflect.Constructor;
import java.lang.reflect.Field;
import java.lang.reflect.Member;
import java.lang.reflect.Method;
import java.lang.reflect.Modifier;
import java.util.ArrayList;
import java.util.Arrays;
import java.util.Collections;
import java.util.List;

/** The public face: just the members of the document, with the exceptions that they name. */
public final class FaceTest {
    private static final String[] FACE = {
        "choose(int) IllegalStateException IndexOutOfBoundsException int",
        "clear() int",
        "count(int) IllegalArgumentException int",
        "end(int) IllegalArgumentException void",
        "fault() int",
        "feed(int,int,int,int,int) UnsupportedOperationException int",
        "letter(boolean,int,int) IndexOutOfBoundsException int",
        "node(int,int,int) IndexOutOfBoundsException IllegalArgumentException int",
        "read() int",
        "sentence() int",
        "tree() int",
        "use(int,int) IndexOutOfBoundsException IllegalArgumentException int",
        "whole(int,int) IndexOutOfBoundsException IllegalArgumentException int",
    };

    public static void main(String[] args) {
        Harness h = new Harness("FaceTest");
        h.same("NONE", -1, TreeJoiner.NONE);
        h.same("class", Modifier.PUBLIC | Modifier.FINAL, TreeJoiner.class.getModifiers());
        h.same("face", String.join("\n", FACE), String.join("\n", publicMethods()));
        Constructor<?>[] made = TreeJoiner.class.getDeclaredConstructors();
        h.same("constructors", 1, made.length);
        h.same("constructor", "public TreeJoiner()", made[0].toString());
        for (Field field : TreeJoiner.class.getDeclaredFields()) {
            checkHidden(h, field, field.getName().equals("NONE"));
        }
        for (Method method : TreeJoiner.class.getDeclaredMethods()) {
            checkHidden(h, method, Modifier.isPublic(method.getModifiers()));
        }
        for (Class<?> inside : TreeJoiner.class.getDeclaredClasses()) {
            h.same(inside + " is static", 1, Modifier.isStatic(inside.getModifiers()) ? 1 : 0);
            h.same(inside + " is hidden", 0,
                    inside.getModifiers() & (Modifier.PUBLIC | Modifier.PROTECTED));
        }
        h.done();
    }

    private static void checkHidden(Harness h, Member member, boolean shown) {
        if (!member.isSynthetic()) {
            int want = shown ? Modifier.PUBLIC : Modifier.PRIVATE;
            int got = member.getModifiers() & (Modifier.PUBLIC | Modifier.PRIVATE | Modifier.PROTECTED);
            h.same(member.toString(), want, got);
        }
    }

    private static List<String> publicMethods() {
        List<String> out = new ArrayList<>();
        for (Method method : TreeJoiner.class.getDeclaredMethods()) {
            if (Modifier.isPublic(method.getModifiers())) {
                out.add(describe(method));
            }
        }
        Collections.sort(out);
        return out;
    }

    private static String describe(Method method) {
        StringBuilder out = new StringBuilder(method.getName()).append('(');
        out.append(String.join(",", names(method.getParameterTypes()))).append(')');
        for (String name : names(method.getExceptionTypes())) {
            out.append(' ').append(name);
        }
        return out.append(' ').append(method.getReturnType().getSimpleName()).toString();
    }

    private static List<String> names(Class<?>[] types) {
        return Arrays.stream(types).map(Class::getSimpleName).toList();
    }
}
