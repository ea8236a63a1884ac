import java.lang.reflect.Constructor;
import java.lang.reflect.Field;
import java.lang.reflect.Method;
import java.lang.reflect.Modifier;
import java.nio.file.Files;
import java.nio.file.Path;
import java.util.Arrays;
import java.util.TreeSet;
import java.util.regex.Matcher;
import java.util.regex.Pattern;

/** The public face is the one that the document lists, and no more. */
public final class FaceTest {
    private static final Path DOCUMENT = Path.of("../shared/DOC.md");
    private static final Pattern METHOD = Pattern.compile("(?m)^ *public (\\w+) (\\w+)\\((.*)\\) throws (.*);$");

    public static void main(String[] args) throws Exception {
        Check.due("the class is public and final", Modifier.toString(SealTrust.class.getModifiers()), "public final");
        methods(document(Files.readString(DOCUMENT)));
        members();
        Check.end("FaceTest");
    }

    private static String signature(Method method) {
        StringBuilder text = new StringBuilder(method.getName()).append('(');
        text.append(String.join(",", Arrays.stream(method.getParameterTypes()).map(Class::getName).toList()));
        text.append(") ").append(method.getReturnType().getName());
        for (Class<?> thrown : method.getExceptionTypes()) {
            text.append(' ').append(thrown.getSimpleName());
        }
        return text.toString();
    }

    /** Every method that the document's face lists, as signature() writes it. */
    private static TreeSet<String> document(String text) {
        TreeSet<String> face = new TreeSet<>();
        Matcher method = METHOD.matcher(text);
        while (method.find()) {
            String types = method.group(3).replaceAll(" \\w+(?=,|$)", "").replace(" ", "");
            face.add(method.group(2) + "(" + types + ") " + method.group(1) + " " + method.group(4).replace(",", ""));
        }
        Check.due("as many methods as promises, but for the first", face.size(), 16);
        return face;
    }

    private static void methods(TreeSet<String> due) {
        TreeSet<String> face = new TreeSet<>();
        TreeSet<String> publicNames = new TreeSet<>();
        for (Method method : SealTrust.class.getDeclaredMethods()) {
            if (!Modifier.isPrivate(method.getModifiers())) {
                face.add(signature(method));
                publicNames.add(method.getName());
                Check.due(method + " is public and no more", Modifier.toString(method.getModifiers()), "public");
            }
        }
        Check.due("the methods", String.join("\n", face), String.join("\n", due));
        for (Method method : SealTrust.class.getDeclaredMethods()) {
            if (Modifier.isPrivate(method.getModifiers())) {
                Check.due("a private " + method.getName() + " is public too",
                        publicNames.contains(method.getName()), false);
            }
        }
        Constructor<?>[] made = SealTrust.class.getDeclaredConstructors();
        Check.due("constructors", Arrays.toString(made), "[public SealTrust()]");
    }

    private static void members() {
        for (Field field : SealTrust.class.getDeclaredFields()) {
            Check.due(field + " is private", Modifier.isPrivate(field.getModifiers()), true);
        }
        for (Class<?> inside : SealTrust.class.getDeclaredClasses()) {
            int modifiers = inside.getModifiers();
            Check.due(inside + " is static and not public",
                    Modifier.isStatic(modifiers) && !Modifier.isPublic(modifiers), true);
            for (Field field : inside.getDeclaredFields()) {
                Check.due(field + " is final if it is static",
                        !Modifier.isStatic(field.getModifiers()) || Modifier.isFinal(field.getModifiers()), true);
            }
        }
    }
}
