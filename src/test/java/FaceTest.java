import java.lang.reflect.Constructor;
import java.lang.reflect.Field;
import java.lang.reflect.Method;
import java.lang.reflect.Modifier;
import java.nio.file.Files;
import java.nio.file.Path;
import java.util.Arrays;
import java.util.TreeSet;
import java.util.regex.Matcher;
import java.util.regex.Pattern;

/** The public face is the document's and no more, and the file keeps to what LANGUAGE.md lets be looked up. */
public final class FaceTest {
    private static final String[] FACE = {
        "bad(int) int NoSuchElementException",
        "book(int) int IllegalArgumentException",
        "consent(int,int) void NoSuchElementException IllegalStateException",
        "deal(int,int,int,int,int) void IllegalArgumentException",
        "file(int,int,long,int,long) void NoSuchElementException IllegalStateException",
        "join(int) long NoSuchElementException IllegalStateException ArithmeticException",
        "motion() int IllegalStateException",
        "object(int,int) void NoSuchElementException IllegalStateException",
        "partial(int,int,int) long NoSuchElementException IllegalArgumentException",
        "parts(int) boolean IllegalArgumentException IllegalStateException",
        "put(int,int) int IllegalArgumentException",
        "refresh(int,int) void IllegalArgumentException IllegalStateException",
        "state(int) long IllegalArgumentException",
        "suspend(int,boolean) boolean NoSuchElementException IllegalStateException",
        "told(int,int) long NoSuchElementException IllegalArgumentException",
        "verify(long) boolean IllegalStateException",
    };

    public static void main(String[] args) throws Exception {
        Check.due("the class is public and final", Modifier.toString(SealTrust.class.getModifiers()), "public final");
        methods();
        members();
        source(Files.readString(Path.of("src/main/java/SealTrust.java")));
        Check.end("FaceTest");
    }

    private static String signature(Method method) {
        StringBuilder text = new StringBuilder(method.getName()).append('(');
        text.append(String.join(",", Arrays.stream(method.getParameterTypes()).map(Class::getName).toList()));
        text.append(") ").append(method.getReturnType().getName());
        for (Class<?> thrown : method.getExceptionTypes()) {
            text.append(' ').append(thrown.getSimpleName());
        }
        return text.toString();
    }

    private static void methods() {
        TreeSet<String> face = new TreeSet<>();
        TreeSet<String> publicNames = new TreeSet<>();
        for (Method method : SealTrust.class.getDeclaredMethods()) {
            if (!Modifier.isPrivate(method.getModifiers())) {
                face.add(signature(method));
                publicNames.add(method.getName());
                Check.due(method + " is public and no more", Modifier.toString(method.getModifiers()), "public");
            }
        }
        Check.due("the methods", String.join("\n", face), String.join("\n", FACE));
        for (Method method : SealTrust.class.getDeclaredMethods()) {
            if (Modifier.isPrivate(method.getModifiers())) {
                Check.due("a private " + method.getName() + " is public too",
                        publicNames.contains(method.getName()), false);
            }
        }
        Constructor<?>[] made = SealTrust.class.getDeclaredConstructors();
        Check.due("constructors", Arrays.toString(made), "[public SealTrust()]");
    }

    private static void members() {
        for (Field field : SealTrust.class.getDeclaredFields()) {
            Check.due(field + " is private", Modifier.isPrivate(field.getModifiers()), true);
        }
        for (Class<?> inside : SealTrust.class.getDeclaredClasses()) {
            int modifiers = inside.getModifiers();
            Check.due(inside + " is static and not public",
                    Modifier.isStatic(modifiers) && !Modifier.isPublic(modifiers), true);
            for (Field field : inside.getDeclaredFields()) {
                Check.due(field + " is final if it is static",
                        !Modifier.isStatic(field.getModifiers()) || Modifier.isFinal(field.getModifiers()), true);
            }
        }
    }

    private static void source(String text) {
        Matcher imports = Pattern.compile("(?m)^import .*$").matcher(text);
        StringBuilder all = new StringBuilder();
        while (imports.find()) {
            all.append(imports.group());
        }
        Check.due("imports", all.toString(), "import java.util.NoSuchElementException;");
        String[] refused = {"package ", "->", "::", "finally", "synchronized", "assert ", "Exact(", "System.nano",
            "Random", "Thread", "BigInteger", "hashCode", "getMessage", "float", "double"};
        for (String word : refused) {
            Check.due("the file holds " + word, text.contains(word), false);
        }
    }
}
