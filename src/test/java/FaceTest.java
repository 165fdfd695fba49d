import java.lang.reflect.Constructor;
import java.lang.reflect.Field;
import java.lang.reflect.Method;
import java.lang.reflect.Modifier;
import java.nio.file.Files;
import java.nio.file.Path;
import java.util.Set;
import java.util.TreeSet;

/** The public face as the document writes it, and the rules of LANGUAGE.md that a look at the text can tell. */
public final class FaceTest {
    private static final Check CHECK = new Check("FaceTest");
    private static final Path SOURCE = Path.of("src", "main", "java", "LotMachine.java");
    private static final String[] FACE = {
        "int feed(int,int,int,int,int)", "int end(int)", "int laws(int)", "int fault(int)", "int law(int,int)",
        "int citizen(int,int,int)", "int swear(int)", "int owe(int,int,int)", "int pay(int,int)", "int about(int,int)",
        "int now(int)", "int come(int)", "int rows(int)", "long draws(int,int)", "int draw(int,int,long)",
        "long chances(int,int)", "long bribed(int,int,long,int)", "int chosen(int)", "int open(int,int)",
        "int lot(int)", "int seat(int,int)", "int suit(int,int,int,int,int)", "int speak(int,int,int)",
        "int witness(int)", "int disc(int,int,int)", "int close(int)", "int court(int,int)", "int count(int)"};

    public static void main(String[] args) throws Exception {
        methods();
        constants();
        othersArePrivate();
        words();
        CHECK.end();
    }

    private static void isTrue(String what, boolean holds) {
        CHECK.due(what, holds ? 1 : 0, 1);
    }

    private static void methods() {
        Set<String> found = new TreeSet<>();
        Set<String> hidden = new TreeSet<>();
        for (Method method : LotMachine.class.getDeclaredMethods()) {
            if (Modifier.isPublic(method.getModifiers())) {
                isTrue(method.getName() + " is not static", !Modifier.isStatic(method.getModifiers()));
                String whole = method.toGenericString();
                String types = whole.substring(whole.indexOf('('));
                found.add(method.getReturnType() + " " + method.getName() + types);
            } else {
                hidden.add(method.getName());
            }
        }
        Set<String> want = new TreeSet<>(Set.of(FACE));
        isTrue("the public methods " + found, found.equals(want));
        for (String method : found) {
            String name = method.substring(method.indexOf(' ') + 1, method.indexOf('('));
            isTrue("no private method " + name, !hidden.contains(name));
        }
    }

    private static void constants() {
        CHECK.due("NONE", LotMachine.NONE, -1);
        CHECK.due("RANGE", LotMachine.RANGE, -2);
        CHECK.due("FULL", LotMachine.FULL, -3);
        CHECK.due("STATE", LotMachine.STATE, -4);
        isTrue("public final", LotMachine.class.getModifiers() == (Modifier.PUBLIC | Modifier.FINAL));
    }

    private static void othersArePrivate() {
        Set<String> named = Set.of("NONE", "RANGE", "FULL", "STATE");
        for (Field field : LotMachine.class.getDeclaredFields()) {
            boolean open = Modifier.isPublic(field.getModifiers());
            isTrue("field " + field, open == named.contains(field.getName()));
            isTrue("field " + field, open || Modifier.isPrivate(field.getModifiers()));
        }
        for (Method method : LotMachine.class.getDeclaredMethods()) {
            isTrue("method " + method,
                Modifier.isPublic(method.getModifiers()) || Modifier.isPrivate(method.getModifiers()));
        }
        Constructor<?>[] constructors = LotMachine.class.getDeclaredConstructors();
        CHECK.due("constructors", constructors.length, 1);
        CHECK.due("its parameters", constructors[0].getParameterCount(), 0);
        isTrue("at most twelve classes", LotMachine.class.getDeclaredClasses().length < 12);
        for (Class<?> inside : LotMachine.class.getDeclaredClasses()) {
            isTrue(inside + " is static", Modifier.isStatic(inside.getModifiers()));
            isTrue(inside + " is private", Modifier.isPrivate(inside.getModifiers()));
            int fields = 0;
            for (Field field : inside.getDeclaredFields()) {
                boolean constant = Modifier.isStatic(field.getModifiers());
                isTrue(field + " is final, if static", !constant || Modifier.isFinal(field.getModifiers()));
                fields += constant ? 0 : 1;
            }
            isTrue(inside + " has at most twenty fields", fields <= 20);
        }
    }

    private static void words() throws Exception {
        String text = Files.readString(SOURCE).replaceAll("(?s)/\\*.*?\\*/", " ").replaceAll("//[^\n]*", " ");
        String code = text.replaceAll("\"[^\"\n]*\"", "\"\"");
        for (String word : new String[] {"throw", "throws", "try", "catch", "finally", "synchronized", "assert",
            "package", "native", "volatile", "transient", "equals", "hashCode", "toString", "protected"}) {
            isTrue("no " + word, !code.matches("(?s).*\\b" + word + "\\b.*"));
        }
        isTrue("no lambda", !code.contains("->"));
        isTrue("no method reference", !code.contains("::"));
        isTrue("no text joined by +", !code.contains("\" +") && !code.contains("+ \""));
        for (String line : code.split("\n")) {
            if (line.startsWith("import ")) {
                isTrue(line, line.equals("import java.util.Arrays;"));
            }
            isTrue("System.arraycopy alone: " + line, !line.replace("System.arraycopy", "").contains("System."));
            isTrue("short enough: " + line, line.length() <= 120);
        }
    }
}
