import java.io.IOException;
import java.lang.reflect.Constructor;
import java.lang.reflect.Field;
import java.lang.reflect.Method;
import java.lang.reflect.Modifier;
import java.nio.file.Files;
import java.nio.file.Path;
import java.util.Set;
import java.util.TreeSet;
import java.util.regex.Matcher;
import java.util.regex.Pattern;

/** The class shows the document's face and nothing more, and its source keeps to LANGUAGE.md. */
public final class FaceTests {
    private static final Path SOURCE = Path.of("src/main/java/LightRound.java");
    private static final String[] FACE = {
        "int NONE", "int BAD", "int STATE", "int FULL", "long NO",
        "LightRound()",
        "int bench()", "int put(int,int,int,int,int)", "int take(int,int)",
        "int set(int,int,int,int)", "int part(int,int,int)", "int turn(int)", "int join(int,int)",
        "long table(int,int,int,int)", "long ray(int,int,int,int,int,int,int)",
        "int stops(int,int,int,int)", "int full(int,int)", "long image(int,int,int,int)",
        "int same(int,int,int)", "int round(int,int)", "long trace(int,int,int)",
        "int turns(int,int)", "long beam(int,int,int,int,int)", "int waist(int,int)",
        "long axis(int,int,int,int,int)", "int span(int,int,int)", "int own(int)",
        "int fit(int,int)", "int swap(int,int,int)", "int count(int)", "int drawer(int)"};
    private static int wrong = 0;

    private static void tell(String text) {
        wrong++;
        System.out.println(text);
    }

    private static String arguments(Class<?>[] types) {
        StringBuilder text = new StringBuilder("(");
        for (Class<?> type : types) {
            text.append(text.length() > 1 ? "," : "").append(type.getName());
        }
        return text.append(")").toString();
    }

    private static void face() {
        Class<?> light = LightRound.class;
        Set<String> shown = new TreeSet<>();
        Set<String> publicNames = new TreeSet<>();
        for (Field field : light.getDeclaredFields()) {
            int modifiers = field.getModifiers();
            if (!Modifier.isPrivate(modifiers)) {
                shown.add(field.getType().getName() + " " + field.getName());
                if (!Modifier.isPublic(modifiers) || !Modifier.isStatic(modifiers)
                        || !Modifier.isFinal(modifiers)) {
                    tell("not a public constant: " + field.getName());
                }
            } else if (Modifier.isStatic(modifiers) && !Modifier.isFinal(modifiers)) {
                tell("static, not final: " + field.getName());
            }
        }
        for (Constructor<?> constructor : light.getDeclaredConstructors()) {
            shown.add("LightRound" + arguments(constructor.getParameterTypes()));
        }
        for (Method method : light.getDeclaredMethods()) {
            if (Modifier.isPublic(method.getModifiers())) {
                publicNames.add(method.getName());
            }
            if (!Modifier.isPrivate(method.getModifiers())) {
                shown.add(method.getReturnType().getName() + " " + method.getName()
                        + arguments(method.getParameterTypes()));
            }
        }
        for (Method method : light.getDeclaredMethods()) {
            if (Modifier.isPrivate(method.getModifiers())
                    && publicNames.contains(method.getName())) {
                tell("a private method bears a public name: " + method.getName());
            }
        }
        Set<String> wanted = new TreeSet<>(Set.of(FACE));
        if (!shown.equals(wanted)) {
            tell("the face is " + shown + ", due is " + wanted);
        }
        if (!Modifier.isFinal(light.getModifiers()) || !Modifier.isPublic(light.getModifiers())) {
            tell("the class is not public and final");
        }
        for (Class<?> inside : light.getDeclaredClasses()) {
            if (!Modifier.isStatic(inside.getModifiers())) {
                tell("a class inside is not static: " + inside.getName());
            }
        }
    }

    private static void language() throws IOException {
        String text = Files.readString(SOURCE)
                .replaceAll("(?s)/\\*.*?\\*/", " ").replaceAll("//[^\n]*", " ");
        Matcher words = Pattern.compile("\\b(import|package|throw|throws|try|catch|synchronized"
                + "|assert|native|volatile|transient|protected|float|double|System|Object|Thread"
                + "|Random|equals|hashCode|toString|\\w+Exact)\\b|->|::").matcher(text);
        while (words.find()) {
            tell("LightRound.java has '" + words.group() + "'");
        }
        Matcher library = Pattern.compile("\\bMath\\.(\\w+)").matcher(text);
        while (library.find()) {
            if (!Set.of("abs", "min", "max").contains(library.group(1))) {
                tell("LightRound.java uses Math." + library.group(1));
            }
        }
    }

    public static void main(String[] args) throws IOException {
        face();
        language();
        System.out.println(wrong == 0 ? "the face is the document's" : wrong + " faults");
        if (wrong != 0) {
            System.exit(1);
        }
    }
}
