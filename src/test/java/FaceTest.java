import java.io.IOException;
import java.lang.reflect.Field;
import java.lang.reflect.Method;
import java.lang.reflect.Modifier;
import java.nio.file.Files;
import java.nio.file.Path;
import java.util.Arrays;
import java.util.List;
import java.util.Set;
import java.util.TreeSet;
import java.util.regex.Matcher;
import java.util.regex.Pattern;

/** The public face of the document, and those rules of LANGUAGE.md that can be seen in the text. */
public final class FaceTest {
    private static final Due DUE = new Due("FaceTest");
    private static final List<String> FACE = List.of("boolean wire(int)", "int tag(int,long,int)",
        "long name(int)", "boolean isName(long)", "int tell(int,int)", "boolean act(int,int)",
        "int group(long,long)", "int pass()", "int fork(int)", "boolean verify(long)",
        "int ask(long,int)", "int alone()", "void descend()", "int step()", "int nodes()",
        "int begin()", "int split()", "void frames()", "int frame(int)", "int heard(int)",
        "int found(int)", "int cost(int)", "int count(int)", "boolean image(int)", "boolean again(int)");
    private static final List<String> BANNED = List.of("throw", "throws", "try", "catch", "finally",
        "synchronized", "assert", "hashCode", "toString", "Random", "System\\.(?!arraycopy)\\w+",
        "Math\\.\\w+Exact", "double", "package", "->", "::", "@\\w+", "volatile", "native", "var");

    public static void main(String[] args) throws IOException {
        face();
        constants();
        classesInside();
        text(Files.readString(Path.of("src/main/java/RollCall.java")));
        DUE.end();
    }

    private static String signature(Method method) {
        StringBuilder s = new StringBuilder(method.getReturnType().getSimpleName());
        s.append(' ').append(method.getName()).append('(');
        for (Class<?> type : method.getParameterTypes()) {
            s.append(s.charAt(s.length() - 1) == '(' ? "" : ",").append(type.getSimpleName());
        }
        return s.append(')').toString();
    }

    private static void face() {
        Set<String> visible = new TreeSet<>();
        Set<String> publicNames = new TreeSet<>();
        for (Method method : RollCall.class.getDeclaredMethods()) {
            if (!Modifier.isPrivate(method.getModifiers()) && !method.isSynthetic()) {
                visible.add(signature(method));
                publicNames.add(method.getName());
                DUE.is("rule 1: public " + method, Modifier.isPublic(method.getModifiers()), true);
            }
        }
        DUE.is("the face is " + visible, visible.equals(new TreeSet<>(FACE)), true);
        DUE.is("public and final", RollCall.class.getModifiers(), Modifier.PUBLIC | Modifier.FINAL);
        DUE.is("one constructor", RollCall.class.getDeclaredConstructors().length, 1);
        DUE.is("without arguments", RollCall.class.getConstructors()[0].getParameterCount(), 0);
        for (Class<?> owner : allClasses()) {
            for (Method method : owner.getDeclaredMethods()) {
                boolean isTwice = Modifier.isPrivate(method.getModifiers()) && publicNames.contains(method.getName());
                DUE.is("rule 1: private " + method, isTwice, false);
                DUE.is("rule 11: parameters of " + method, method.getParameterCount() <= 7, true);
            }
        }
    }

    private static List<Class<?>> allClasses() {
        List<Class<?>> all = new java.util.ArrayList<>(Arrays.asList(RollCall.class.getDeclaredClasses()));
        all.add(RollCall.class);
        return all;
    }

    private static void constants() {
        for (Field field : RollCall.class.getDeclaredFields()) {
            boolean isPrivate = Modifier.isPrivate(field.getModifiers());
            DUE.is("rule 1: " + field, isPrivate, !field.getName().equals("NONE"));
        }
        for (Class<?> owner : allClasses()) {
            int own = 0;
            for (Field field : owner.getDeclaredFields()) {
                boolean isStatic = Modifier.isStatic(field.getModifiers());
                DUE.is("rule 5: " + field, isStatic && !Modifier.isFinal(field.getModifiers()), false);
                own += isStatic ? 0 : 1;
            }
            DUE.is("rule 11: fields of " + owner, own <= 20, true);
        }
    }

    private static void classesInside() {
        Class<?>[] inside = RollCall.class.getDeclaredClasses();
        for (Class<?> one : inside) {
            DUE.is("rule 2: static " + one, Modifier.isStatic(one.getModifiers()), true);
            DUE.is("rule 1: not public " + one, Modifier.isPublic(one.getModifiers()), false);
        }
        DUE.is("rule 11: classes", inside.length < 12, true);
    }

    private static void text(String source) {
        String code = source.replaceAll("(?s)/\\*.*?\\*/", "").replaceAll("//[^\\n]*", "");
        for (String banned : BANNED) {
            String edge = Character.isLetter(banned.charAt(0)) ? "\\b" : "";
            Matcher matcher = Pattern.compile(edge + banned + edge).matcher(code);
            DUE.is("the rules have no " + banned, matcher.find(), false);
        }
        Matcher imports = Pattern.compile("import\\s+([\\w.*]+);").matcher(code);
        while (imports.find()) {
            DUE.is("rule 4: import " + imports.group(1), imports.group(1).equals("java.util.Arrays"), true);
        }
        boolean isPlain = source.chars().allMatch(c -> c == '\n' || c >= 32 && c < 127);
        DUE.is("the text has plain signs alone", isPlain, true);
    }
}
