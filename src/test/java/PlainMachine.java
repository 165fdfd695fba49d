import java.util.ArrayList;
import java.util.Arrays;
import java.util.HashMap;
import java.util.HashSet;
import java.util.LinkedHashMap;
import java.util.List;
import java.util.Map;
import java.util.Set;
import java.util.TreeMap;
import java.util.regex.Matcher;
import java.util.regex.Pattern;

/**
 * The document told a second time, as plainly as the Java library lets it and in another way than the class:
 * nothing is kept that can be found by looking, and draws are counted by writing all of them out.
 * It is slow, and it holds for tribes of few rows alone.
 */
final class PlainMachine {
    private static final int NONE = -1;
    private static final int RANGE = -2;
    private static final int FULL = -3;
    private static final int STATE = -4;

    private static final class Person {
        int tribe;
        int letter;
        int born;
        boolean sworn;
        int owed;
        int earned;
    }

    private static final class Text {
        int firstDay;
        Map<Integer, Integer> told;
    }

    private static final class Trial {
        int kind;
        int accuser;
        int accused;
        int sum;
        final int[] water = new int[2];
        boolean accuserSpoke;
        boolean witness;
        boolean closed;
        final Map<Integer, Integer> discs = new HashMap<>();
        final Set<Integer> struck = new HashSet<>();
        int verdict = NONE;
        int debtor = NONE;
        int debt = NONE;

        List<Integer> counting() {
            return discs.keySet().stream().filter(c -> !struck.contains(c)).toList();
        }

        int convicting() {
            return counting().stream().mapToInt(discs::get).sum();
        }
    }

    private static final class Day {
        final List<Integer> came = new ArrayList<>();
        final Set<Integer> drawn = new HashSet<>();
        final List<Integer> chosen = new ArrayList<>();
        final Map<Integer, Integer> lots = new LinkedHashMap<>();
        final Map<Integer, Integer> sizes = new HashMap<>();
        final Map<Integer, Trial> trials = new HashMap<>();
    }

    private final List<Person> roll = new ArrayList<>();
    private final List<Text> texts = new ArrayList<>();
    private final StringBuilder tape = new StringBuilder();
    private int[] fault = {0, NONE};
    private Day today = new Day();
    private int clock;
    private int closed;

    // ---- laws

    int feed(int a, int b, int c, int d, int e) {
        if (tape.length() > 980) {
            return FULL;
        }
        for (int four : new int[] {a, b, c, d, e}) {
            tape.append((char) (four >>> 24)).append((char) (four >>> 16 & 255));
            tape.append((char) (four >>> 8 & 255)).append((char) (four & 255));
        }
        return tape.length();
    }

    int end(int n) {
        if (n < 0 || n > tape.length()) {
            return NONE;
        }
        tape.setLength(n);
        return n;
    }

    int laws(int day) {
        String text = tape.toString();
        tape.setLength(0);
        if (day < clock || day > 20000) {
            return RANGE;
        }
        PlainText read = new PlainText(text);
        fault = read.fault();
        if (fault[0] != 0) {
            return NONE;
        }
        if (texts.size() == 15) {
            return FULL;
        }
        Text told = new Text();
        told.firstDay = day;
        told.told = read.told();
        texts.add(told);
        return texts.size() - 1;
    }

    int fault(int what) {
        return what == 0 || what == 1 ? fault[what] : NONE;
    }

    int law(int day, int what) {
        if (day < 0 || day > 20000) {
            return -9;
        }
        int number = textOn(day);
        if (what == 50) {
            return number;
        }
        Map<Integer, Integer> told = number == NONE ? Map.of() : texts.get(number).told;
        if (what >= 30 && what <= 35) {
            return told.getOrDefault(what, law(day, what - 20));
        }
        return told.getOrDefault(what, untold(what));
    }

    private int textOn(int day) {
        int best = NONE;
        for (int i = 0; i < texts.size(); i++) {
            int first = texts.get(i).firstDay;
            if (first <= day && (best == NONE || first >= texts.get(best).firstDay)) {
                best = i;
            }
        }
        return best;
    }

    private static int untold(int what) {
        Map<Integer, Integer> custom = new TreeMap<>(Map.of(0, 10950, 1, 3, 2, 1000, 3, 0));
        for (int k = 0; k <= 5; k++) {
            custom.put(10 + k, 10);
            custom.put(20 + k, NONE);
            custom.put(40 + k, 0);
        }
        return custom.getOrDefault(what, -9);
    }

    // ---- the roll

    private boolean isCitizen(int c) {
        return 0 <= c && c < roll.size();
    }

    private boolean may(int c) {
        Person p = roll.get(c);
        return p.sworn && clock - p.born >= law(clock, 0) && p.owed == 0;
    }

    int citizen(int tribe, int letter, int born) {
        if (tribe < 0 || tribe > 9 || letter < 0 || letter > 4 || born < -40000 || born >= clock) {
            return RANGE;
        }
        if (roll.size() == 150) {
            return FULL;
        }
        Person p = new Person();
        p.tribe = tribe;
        p.letter = letter;
        p.born = born;
        roll.add(p);
        return roll.size() - 1;
    }

    int swear(int c) {
        if (!isCitizen(c)) {
            return RANGE;
        }
        boolean was = roll.get(c).sworn;
        roll.get(c).sworn = true;
        return was ? 0 : 1;
    }

    int owe(int c, int sum, int day) {
        if (!isCitizen(c) || sum < 1 || sum > 1_000_000_000 || day < 0 || day > clock) {
            return RANGE;
        }
        if ((long) roll.get(c).owed + sum > 2_000_000_000L) {
            return RANGE;
        }
        takeDebt(c, sum);
        return roll.get(c).owed;
    }

    private void takeDebt(int c, int sum) {
        roll.get(c).owed += sum;
        for (Map.Entry<Integer, Trial> trial : today.trials.entrySet()) {
            if (!trial.getValue().closed && sitters(trial.getKey()).contains(c)) {
                trial.getValue().struck.add(c);
            }
        }
    }

    int pay(int c, int sum) {
        if (!isCitizen(c) || sum < 1 || sum > roll.get(c).owed) {
            return RANGE;
        }
        roll.get(c).owed -= sum;
        return roll.get(c).owed;
    }

    int about(int c, int what) {
        if (!isCitizen(c) || what < 0 || what > 9) {
            return NONE;
        }
        Person p = roll.get(c);
        int[] answers = {p.tribe, p.letter, p.born, p.sworn ? 1 : 0, p.owed, may(c) ? 1 : 0,
            column(p.tribe, p.letter).indexOf(c), today.chosen.contains(c) ? 1 : 0,
            today.lots.getOrDefault(c, NONE), p.earned};
        return answers[what];
    }

    // ---- dawn

    int now(int day) {
        if (day <= clock || day > 20000) {
            return RANGE;
        }
        clock = day;
        today = new Day();
        return day;
    }

    private List<Integer> column(int tribe, int letter) {
        return today.came.stream().filter(c -> roll.get(c).tribe == tribe && roll.get(c).letter == letter).toList();
    }

    int come(int c) {
        if (!isCitizen(c)) {
            return RANGE;
        }
        Person p = roll.get(c);
        if (!may(c) || today.came.contains(c) || today.drawn.contains(p.tribe)) {
            return STATE;
        }
        today.came.add(c);
        return column(p.tribe, p.letter).size();
    }

    int rows(int tribe) {
        if (tribe < 0 || tribe > 9) {
            return RANGE;
        }
        int[] lengths = new int[5];
        for (int letter = 0; letter < 5; letter++) {
            lengths[letter] = column(tribe, letter).size();
        }
        return Arrays.stream(lengths).min().getAsInt();
    }

    /** All ways to choose so many rows, each as its row of numbers, in the order of these. */
    static List<List<Integer>> ways(int first, int rows, int w) {
        List<List<Integer>> all = new ArrayList<>();
        if (w == 0) {
            all.add(List.of());
        }
        for (int row = first; row < rows && w > 0; row++) {
            for (List<Integer> rest : ways(row + 1, rows, w - 1)) {
                List<Integer> way = new ArrayList<>(List.of(row));
                way.addAll(rest);
                all.add(way);
            }
        }
        return all;
    }

    private boolean cannotDraw(int tribe, int w) {
        return rows(tribe) == RANGE || w < 0 || w > rows(tribe);
    }

    long draws(int tribe, int w) {
        return cannotDraw(tribe, w) ? RANGE : ways(0, rows(tribe), w).size();
    }

    int draw(int tribe, int w, long number) {
        if (cannotDraw(tribe, w)) {
            return RANGE;
        }
        List<List<Integer>> all = ways(0, rows(tribe), w);
        if (number < 0 || number >= all.size()) {
            return RANGE;
        }
        if (!today.drawn.add(tribe)) {
            return STATE;
        }
        for (int row : all.get((int) number)) {
            for (int letter = 0; letter < 5; letter++) {
                today.chosen.add(column(tribe, letter).get(row));
            }
        }
        return 5 * w;
    }

    long chances(int c, int w) {
        if (!isCitizen(c) || cannotDraw(roll.get(c).tribe, w)) {
            return RANGE;
        }
        Person p = roll.get(c);
        int row = column(p.tribe, p.letter).indexOf(c);
        if (row < 0) {
            return STATE;
        }
        return ways(0, rows(p.tribe), w).stream().filter(way -> way.contains(row)).count();
    }

    long bribed(int tribe, int w, long bits, int m) {
        if (cannotDraw(tribe, w) || m < 0) {
            return RANGE;
        }
        int[] inRow = new int[Math.max(13, rows(tribe))];
        for (int bit = 0; bit < 64; bit++) {
            inRow[bit / 5] += (int) (bits >>> bit & 1);
        }
        for (int row = Math.min(12, rows(tribe)); row < 13; row++) {
            if (inRow[row] > 0) {
                return RANGE;
            }
        }
        return ways(0, rows(tribe), w).stream().filter(way -> way.stream().mapToInt(r -> inRow[r]).sum() >= m).count();
    }

    int chosen(int i) {
        return i >= 0 && i < today.chosen.size() ? today.chosen.get(i) : NONE;
    }

    // ---- courts

    private static boolean isCourt(int court) {
        return 0 <= court && court <= 4;
    }

    private List<Integer> sitters(int court) {
        return today.lots.keySet().stream().filter(c -> today.lots.get(c) == court).toList();
    }

    private boolean isFull(int court) {
        return today.sizes.containsKey(court) && sitters(court).size() == today.sizes.get(court);
    }

    private Trial openTrial(int court) {
        Trial trial = today.trials.get(court);
        return trial == null || trial.closed ? null : trial;
    }

    private List<Integer> wanting(int court) {
        Trial trial = today.trials.get(court);
        return sitters(court).stream().filter(c -> !trial.discs.containsKey(c) && !trial.struck.contains(c)).toList();
    }

    int open(int court, int size) {
        if (!isCourt(court) || size < 1 || size > 25 || (size & 1) == 0) {
            return RANGE;
        }
        return today.sizes.putIfAbsent(court, size) == null ? size : STATE;
    }

    int lot(int court) {
        if (!isCourt(court)) {
            return RANGE;
        }
        if (!today.sizes.containsKey(court) || isFull(court)) {
            return STATE;
        }
        for (int c : today.chosen) {
            if (!today.lots.containsKey(c)) {
                today.lots.put(c, court);
                return c;
            }
        }
        return NONE;
    }

    int seat(int court, int i) {
        List<Integer> seats = sitters(court);
        return i >= 0 && i < seats.size() ? seats.get(i) : NONE;
    }

    int suit(int court, int kind, int accuser, int accused, int sum) {
        if (!isCourt(court) || kind < 0 || kind > 5 || sum < 0 || sum > 1_000_000) {
            return RANGE;
        }
        if (!isCitizen(accuser) || !isCitizen(accused) || accuser == accused) {
            return RANGE;
        }
        if (sitters(court).contains(accuser) || sitters(court).contains(accused)) {
            return RANGE;
        }
        if (!isFull(court) || openTrial(court) != null) {
            return STATE;
        }
        Trial trial = new Trial();
        trial.kind = kind;
        trial.accuser = accuser;
        trial.accused = accused;
        trial.sum = sum;
        boolean beyond = law(clock, 20 + kind) != NONE && sum > law(clock, 20 + kind);
        Arrays.fill(trial.water, law(clock, (beyond ? 30 : 10) + kind));
        today.trials.put(court, trial);
        return trial.water[0];
    }

    int speak(int court, int side, int minutes) {
        if (!isCourt(court) || side < 0 || side > 1 || minutes < 1 || minutes > 1000) {
            return RANGE;
        }
        Trial trial = openTrial(court);
        if (trial == null || trial.witness || !trial.discs.isEmpty()) {
            return STATE;
        }
        if (side == 1 && !trial.accuserSpoke || trial.water[side] < minutes) {
            return STATE;
        }
        trial.accuserSpoke = true;
        trial.water[side] -= minutes;
        return trial.water[side];
    }

    int witness(int court) {
        if (!isCourt(court)) {
            return RANGE;
        }
        Trial trial = openTrial(court);
        if (trial == null || !trial.discs.isEmpty()) {
            return STATE;
        }
        trial.witness = !trial.witness;
        return trial.witness ? 1 : 0;
    }

    int disc(int court, int c, int disc) {
        if (!isCourt(court) || disc < 0 || disc > 1) {
            return RANGE;
        }
        Trial trial = openTrial(court);
        if (trial == null || trial.witness || !wanting(court).contains(c)) {
            return STATE;
        }
        trial.discs.put(c, disc);
        return wanting(court).size();
    }

    int close(int court) {
        if (!isCourt(court)) {
            return RANGE;
        }
        Trial trial = openTrial(court);
        if (trial == null || !wanting(court).isEmpty()) {
            return STATE;
        }
        int all = trial.counting().size();
        int against = trial.convicting();
        int acquitting = all - against;
        boolean convicted = against > acquitting || against == acquitting && law(clock, 3) == 1;
        int debtor = convicted ? trial.accused : trial.accuser;
        int debt = convicted ? law(clock, 40 + trial.kind) + trial.sum : against * 5 < all ? law(clock, 2) : 0;
        if (debt > 0 && (long) roll.get(debtor).owed + debt > 2_000_000_000L) {
            return FULL;
        }
        trial.closed = true;
        trial.verdict = convicted ? 1 : 0;
        trial.debt = debt;
        closed++;
        trial.counting().forEach(c -> roll.get(c).earned += law(clock, 1));
        if (debt > 0) {
            trial.debtor = debtor;
            takeDebt(debtor, debt);
        }
        return trial.verdict;
    }

    int court(int court, int what) {
        if (!isCourt(court) || what < 0 || what > 14) {
            return NONE;
        }
        if (what < 3) {
            return new int[] {today.sizes.getOrDefault(court, 0), sitters(court).size(),
                openTrial(court) == null ? 0 : 1}[what];
        }
        Trial t = today.trials.get(court);
        if (t == null) {
            return NONE;
        }
        int against = !t.closed && !wanting(court).isEmpty() ? NONE : t.convicting();
        return new int[] {t.kind, t.accuser, t.accused, t.sum, t.water[0], t.water[1], t.counting().size(), against,
            t.struck.size(), t.verdict, t.debtor, t.debt}[what - 3];
    }

    int count(int what) {
        int pay = roll.stream().mapToInt(p -> p.earned).sum();
        int[] answers = {roll.size(), clock, today.came.size(), today.chosen.size(), today.lots.size(), texts.size(),
            tape.length(), closed, pay};
        return what >= 0 && what < answers.length ? answers[what] : NONE;
    }

    /** A text, told by its tokens' letters: whether it can go on is asked of the grammar as one pattern. */
    static final class PlainText {
        private static final Pattern TOKEN = Pattern.compile("[ \n]*([a-z]+|[0-9]+|[^ \n])", Pattern.DOTALL);
        private static final Pattern GRAMMAR = Pattern.compile("((an|pn|fn|t[qc]|snwn(onwn)?in);)*");
        private static final Map<String, String> LETTERS = Map.of("age", "a", "pay", "p", "fifth", "f", "tie", "t",
            "acquit", "q", "convict", "c", "suit", "s", "water", "w", "over", "o", "fine", "i");

        private final List<String> tokens = new ArrayList<>();
        private final List<Integer> places = new ArrayList<>();
        private final StringBuilder letters = new StringBuilder();
        private final int length;

        PlainText(String text) {
            length = text.length();
            Matcher token = TOKEN.matcher(text);
            while (token.lookingAt()) {
                tokens.add(token.group(1));
                places.add(token.start(1));
                letters.append(letterOf(token.group(1)));
                token.region(token.end(), text.length());
            }
        }

        private static String letterOf(String token) {
            if (token.matches("[0-9]{1,5}")) {
                return "n";
            }
            return token.equals(";") ? ";" : LETTERS.getOrDefault(token, "?");
        }

        int[] fault() {
            Set<String> heads = new HashSet<>();
            for (int i = 0; i < tokens.size(); i++) {
                Matcher soFar = GRAMMAR.matcher(letters.substring(0, i + 1));
                boolean whole = soFar.matches();
                if (!whole && !soFar.hitEnd()) {
                    return new int[] {1, places.get(i)};
                }
                if (isKind(i) && Integer.parseInt(tokens.get(i)) > 5) {
                    return new int[] {2, places.get(i)};
                }
                String head = headAt(i);
                if (!head.isEmpty() && !heads.add(head)) {
                    return new int[] {3, places.get(i)};
                }
            }
            boolean ends = GRAMMAR.matcher(letters).matches();
            return ends ? new int[] {0, NONE} : new int[] {1, length};
        }

        private boolean isKind(int i) {
            return i > 0 && tokens.get(i - 1).equals("suit");
        }

        /** What may stand but once: a line's first word, or a suit's kind; else nothing. */
        private String headAt(int i) {
            if (isKind(i)) {
                return "suit " + Integer.parseInt(tokens.get(i));
            }
            boolean first = i == 0 || tokens.get(i - 1).equals(";");
            return first && !tokens.get(i).equals("suit") ? tokens.get(i) : "";
        }

        /** What a text without a fault tells, by the numbers of law(). */
        Map<Integer, Integer> told() {
            Map<Integer, Integer> told = new HashMap<>();
            for (String line : String.join(" ", tokens).split(" ?; ?")) {
                String[] words = line.split(" ");
                switch (words[0]) {
                    case "age": told.put(0, Integer.parseInt(words[1])); break;
                    case "pay": told.put(1, Integer.parseInt(words[1])); break;
                    case "fifth": told.put(2, Integer.parseInt(words[1])); break;
                    case "tie": told.put(3, words[1].equals("convict") ? 1 : 0); break;
                    case "suit": tellSuit(told, words); break;
                    default: break;
                }
            }
            return told;
        }

        private static void tellSuit(Map<Integer, Integer> told, String[] words) {
            int k = Integer.parseInt(words[1]);
            told.put(10 + k, Integer.parseInt(words[3]));
            if (words[4].equals("over")) {
                told.put(20 + k, Integer.parseInt(words[5]));
                told.put(30 + k, Integer.parseInt(words[7]));
            }
            told.put(40 + k, Integer.parseInt(words[words.length - 1]));
        }
    }
}
