/** Counts the answers that are not as due, and the small helpers that the tests share. */
final class Check {
    private final String name;
    private int wrong;
    private int asked;

    Check(String name) {
        this.name = name;
    }

    void due(String call, long got, long want) {
        asked++;
        if (got != want) {
            wrong++;
            System.out.println(name + ": " + call + " answered " + got + ", due is " + want);
        }
    }

    void end() {
        System.out.println(name + ": " + asked + " answers, " + wrong + " wrong");
        if (wrong != 0) {
            System.exit(1);
        }
    }

    /** Puts a text of characters 0 to 255 behind what the tape has. */
    static void write(LotMachine x, String text) {
        int before = x.count(6);
        int length = text.length();
        for (int from = 0; from < length; from += 20) {
            int[] words = new int[5];
            for (int i = 0; i < 20; i++) {
                int value = from + i < length ? text.charAt(from + i) : ' ';
                words[i / 4] = words[i / 4] << 8 | value & 255;
            }
            x.feed(words[0], words[1], words[2], words[3], words[4]);
        }
        x.end(before + length);
    }

    static int tell(LotMachine x, String text, int day) {
        write(x, text);
        return x.laws(day);
    }

    /** A sworn citizen of full age, by the laws that hold without a text. */
    static int sworn(LotMachine x, int tribe, int letter) {
        int c = x.citizen(tribe, letter, -11000);
        x.swear(c);
        return c;
    }

    /** So many rows of a tribe come: citizens on from the roll's next number, row by row. */
    static void rowsCome(LotMachine x, int tribe, int rows) {
        for (int i = 0; i < rows * 5; i++) {
            x.come(sworn(x, tribe, i % 5));
        }
    }
}
