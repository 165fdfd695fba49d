import java.lang.reflect.InvocationTargetException;
import java.lang.reflect.Method;
import java.lang.reflect.Modifier;
import java.util.Arrays;
import java.util.Comparator;
import java.util.List;

/** Counts the answers that are not as due, and the small helpers that the tests share. */
final class Check {
    private final String name;
    private String test = "";
    private String sentence = "";
    private int wrong;
    private int asked;

    Check(String name) {
        this.name = name;
    }

    void due(String call, long got, long want) {
        asked++;
        if (got != want) {
            complain(call + " answered " + got + ", due is " + want);
        }
    }

    /** Both lists tell answers by their calls; only the first that is unlike is told. */
    void same(String when, List<String> got, List<String> want) {
        asked++;
        int both = Math.min(got.size(), want.size());
        for (int i = 0; i < both; i++) {
            if (!got.get(i).equals(want.get(i))) {
                complain(when + ": " + got.get(i) + ", due is " + want.get(i));
                return;
            }
        }
        if (got.size() != want.size()) {
            complain(when + ": " + got.size() + " answers, due are " + want.size());
        }
    }

    /** The words of the document that the test holds up; they are told with what fails. */
    void sentence(String words) {
        sentence = words;
    }

    /**
     * Runs each test of a class by itself: every static method without parameters that is not private.
     * One that is forgotten in a list of calls can't be, and one that asks nothing is a fault.
     */
    void runEach(Class<?> tests) {
        Method[] methods = tests.getDeclaredMethods();
        Arrays.sort(methods, Comparator.comparing(Method::getName));
        for (Method method : methods) {
            if (isTest(method)) {
                runOne(method);
            }
        }
        test = "";
    }

    private static boolean isTest(Method method) {
        int modifiers = method.getModifiers();
        return Modifier.isStatic(modifiers) && !Modifier.isPrivate(modifiers) && !method.isSynthetic()
            && method.getParameterCount() == 0;
    }

    private void runOne(Method method) {
        test = method.getName();
        sentence = "";
        int askedBefore = asked;
        try {
            method.invoke(null);
        } catch (InvocationTargetException | IllegalAccessException e) {
            complain("ended with " + (e.getCause() == null ? e : e.getCause()));
        }
        if (asked == askedBefore) {
            complain("asks nothing");
        }
        if (sentence.isEmpty()) {
            complain("names no sentence of the document");
        }
    }

    private void complain(String what) {
        wrong++;
        String where = test.isEmpty() ? name : name + "." + test + " [" + sentence + "]";
        System.out.println(where + ": " + what);
    }

    void end() {
        System.out.println(name + ": " + asked + " answers, " + wrong + " wrong");
        if (wrong != 0) {
            System.exit(1);
        }
    }

    /** Puts a text of characters 0 to 255 behind what the tape has. */
    static void write(LotMachine x, String text) {
        int before = x.count(6);
        int length = text.length();
        for (int from = 0; from < length; from += 20) {
            int[] words = new int[5];
            for (int i = 0; i < 20; i++) {
                int value = from + i < length ? text.charAt(from + i) : ' ';
                words[i / 4] = words[i / 4] << 8 | value & 255;
            }
            x.feed(words[0], words[1], words[2], words[3], words[4]);
        }
        x.end(before + length);
    }

    static int tell(LotMachine x, String text, int day) {
        write(x, text);
        return x.laws(day);
    }

    /** A sworn citizen of full age, by the laws that hold without a text. */
    static int sworn(LotMachine x, int tribe, int letter) {
        int c = x.citizen(tribe, letter, -11000);
        x.swear(c);
        return c;
    }

    /** So many rows of a tribe come: citizens on from the roll's next number, row by row. */
    static void rowsCome(LotMachine x, int tribe, int rows) {
        for (int i = 0; i < rows * 5; i++) {
            x.come(sworn(x, tribe, i % 5));
        }
    }
}
