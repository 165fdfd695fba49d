import java.util.Arrays;

/**
 * A machine of lots and its courts. Every row of numbers is made in the constructor and used again,
 * so that a call makes nothing but a citizen or a text of laws that is kept.
 */
public final class LotMachine {
    public static final int NONE = -1;
    public static final int RANGE = -2;
    public static final int FULL = -3;
    public static final int STATE = -4;

    private static final int NO_LAW = -9;
    private static final int LAST_DAY = 20000;
    private static final int EARLIEST_BIRTH = -40000;
    private static final int TRIBES = 10;
    private static final int LETTERS = 5;
    private static final int MOST_CITIZENS = 150;
    private static final int COURTS = 5;
    private static final int MOST_SEATS = 25;
    private static final int KINDS = 6;
    private static final int MOST_SUM = 1000000;
    private static final int MOST_DEBT_AT_ONCE = 1000000000;
    private static final int MOST_DEBT = 2000000000;
    private static final int MOST_MINUTES = 1000;
    private static final int BYTES_OF_A_FEED = 20;

    private final Tape tape;
    private final LawReader reader;
    private final LawBook book;
    private final Citizen[] roll;
    private final Dawn dawn;
    private final BribeCounter bribes;
    private final Court[] courts;
    private int citizens;
    private int clock;
    private int suitsClosed;
    private int payInAll;

    public LotMachine() {
        tape = new Tape();
        reader = new LawReader(tape);
        book = new LawBook();
        roll = new Citizen[MOST_CITIZENS];
        dawn = new Dawn();
        bribes = new BribeCounter();
        courts = new Court[COURTS];
        for (int i = 0; i < COURTS; i++) {
            courts[i] = new Court();
        }
    }

    // ---- the tape and the laws

    public int feed(int a, int b, int c, int d, int e) {
        if (tape.used + BYTES_OF_A_FEED > Tape.ROOM) {
            return FULL;
        }
        tape.append(a);
        tape.append(b);
        tape.append(c);
        tape.append(d);
        tape.append(e);
        return tape.used;
    }

    public int end(int n) {
        if (n < 0 || n > tape.used) {
            return NONE;
        }
        tape.used = n;
        return n;
    }

    public int laws(int day) {
        if (day < clock || day > LAST_DAY) {
            tape.used = 0;
            return RANGE;
        }
        boolean sound = reader.readText();
        tape.used = 0;
        if (!sound) {
            return NONE;
        }
        return book.enact(reader.draft, day);
    }

    public int fault(int what) {
        if (what == 0) {
            return reader.faultKind;
        }
        return what == 1 ? reader.faultPlace : NONE;
    }

    public int law(int day, int what) {
        if (day < 0 || day > LAST_DAY) {
            return NO_LAW;
        }
        return book.inForce(day).answer(what);
    }

    // ---- the roll

    public int citizen(int tribe, int letter, int born) {
        if (!isTribe(tribe) || letter < 0 || letter >= LETTERS) {
            return RANGE;
        }
        if (born < EARLIEST_BIRTH || born >= clock) {
            return RANGE;
        }
        if (citizens >= MOST_CITIZENS) {
            return FULL;
        }
        int number = citizens;
        roll[number] = new Citizen(number, tribe, letter, born);
        citizens++;
        return number;
    }

    public int swear(int c) {
        Citizen citizen = citizenAt(c);
        if (citizen == null) {
            return RANGE;
        }
        if (citizen.sworn) {
            return 0;
        }
        citizen.sworn = true;
        return 1;
    }

    public int owe(int c, int sum, int day) {
        Citizen citizen = citizenAt(c);
        if (citizen == null || day < 0 || day > clock) {
            return RANGE;
        }
        if (sum < 1 || sum > MOST_DEBT_AT_ONCE || sum > MOST_DEBT - citizen.owed) {
            return RANGE;
        }
        addDebt(citizen, sum);
        return citizen.owed;
    }

    public int pay(int c, int sum) {
        Citizen citizen = citizenAt(c);
        if (citizen == null || sum < 1 || sum > citizen.owed) {
            return RANGE;
        }
        citizen.owed -= sum;
        return citizen.owed;
    }

    public int about(int c, int what) {
        Citizen citizen = citizenAt(c);
        if (citizen == null) {
            return NONE;
        }
        switch (what) {
            case 0: return citizen.tribe;
            case 1: return citizen.letter;
            case 2: return citizen.born;
            case 3: return citizen.sworn ? 1 : 0;
            case 4: return citizen.owed;
            case 5: return maySit(citizen) ? 1 : 0;
            case 6: return citizen.place;
            case 7: return citizen.chosen ? 1 : 0;
            case 8: return citizen.court;
            case 9: return citizen.earned;
            default: return NONE;
        }
    }

    // ---- dawn

    public int now(int day) {
        if (day <= clock || day > LAST_DAY) {
            return RANGE;
        }
        clock = day;
        dawn.clear();
        for (int i = 0; i < COURTS; i++) {
            Court room = courtAt(i);
            if (room != null) {
                room.shut();
            }
        }
        return day;
    }

    public int come(int c) {
        Citizen citizen = citizenAt(c);
        if (citizen == null) {
            return RANGE;
        }
        if (!maySit(citizen) || citizen.place != NONE || dawn.hasDrawn(citizen.tribe)) {
            return STATE;
        }
        return dawn.admit(citizen);
    }

    public int rows(int tribe) {
        return isTribe(tribe) ? dawn.rowsOf(tribe) : RANGE;
    }

    // 150 citizens make at most 30 rows, and C(30, 15) is far below 2^62: no count of draws is ever FULL.
    public long draws(int tribe, int w) {
        if (!canDraw(tribe, w)) {
            return RANGE;
        }
        return waysToChoose(dawn.rowsOf(tribe), w);
    }

    public int draw(int tribe, int w, long number) {
        if (!canDraw(tribe, w)) {
            return RANGE;
        }
        if (number < 0 || number >= waysToChoose(dawn.rowsOf(tribe), w)) {
            return RANGE;
        }
        if (dawn.hasDrawn(tribe)) {
            return STATE;
        }
        return dawn.chooseRows(tribe, w, number);
    }

    public long chances(int c, int w) {
        Citizen citizen = citizenAt(c);
        if (citizen == null || !canDraw(citizen.tribe, w)) {
            return RANGE;
        }
        if (citizen.place == NONE) {
            return STATE;
        }
        int rows = dawn.rowsOf(citizen.tribe);
        return citizen.place < rows ? waysToChoose(rows - 1, w - 1) : 0;
    }

    public long bribed(int tribe, int w, long bits, int m) {
        if (!canDraw(tribe, w) || m < 0) {
            return RANGE;
        }
        int rows = dawn.rowsOf(tribe);
        if (!BribeCounter.fits(bits, rows)) {
            return RANGE;
        }
        return bribes.waysWithAtLeast(rows, w, bits, m);
    }

    public int chosen(int i) {
        Citizen citizen = dawn.chosenAt(i);
        return citizen == null ? NONE : citizen.number;
    }

    // ---- courts

    public int open(int court, int size) {
        Court room = courtAt(court);
        if (room == null || size < 1 || size > MOST_SEATS || size % 2 == 0) {
            return RANGE;
        }
        if (room.size > 0) {
            return STATE;
        }
        room.size = size;
        return size;
    }

    public int lot(int court) {
        Court room = courtAt(court);
        if (room == null) {
            return RANGE;
        }
        if (room.size == 0 || room.isFull()) {
            return STATE;
        }
        Citizen citizen = dawn.chosenAt(dawn.lots);
        if (citizen == null) {
            return NONE;
        }
        dawn.lots++;
        citizen.court = court;
        room.take(citizen.number);
        return citizen.number;
    }

    public int seat(int court, int i) {
        Court room = courtAt(court);
        return room == null ? NONE : room.sitterAt(i);
    }

    public int suit(int court, int kind, int accuser, int accused, int sum) {
        Court room = courtAt(court);
        if (room == null || kind < 0 || kind >= KINDS || sum < 0 || sum > MOST_SUM) {
            return RANGE;
        }
        if (accuser == accused || !canBeParty(room, accuser) || !canBeParty(room, accused)) {
            return RANGE;
        }
        if (room.size == 0 || !room.isFull() || room.suit.open) {
            return STATE;
        }
        int water = book.inForce(clock).waterOf(kind, sum);
        room.suit.begin(kind, accuser, accused, sum);
        room.suit.prepare(room.size, water);
        return water;
    }

    public int speak(int court, int side, int minutes) {
        Court room = courtAt(court);
        if (room == null || side < 0 || side > 1 || minutes < 1 || minutes > MOST_MINUTES) {
            return RANGE;
        }
        return room.suit.hearWords(side, minutes);
    }

    public int witness(int court) {
        Court room = courtAt(court);
        return room == null ? RANGE : room.suit.turnWitness();
    }

    public int disc(int court, int c, int disc) {
        Court room = courtAt(court);
        if (room == null || disc < 0 || disc > 1) {
            return RANGE;
        }
        return room.suit.takeDisc(room.seatOf(c), disc);
    }

    public int close(int court) {
        Court room = courtAt(court);
        if (room == null) {
            return RANGE;
        }
        Suit suit = room.suit;
        if (!suit.open || suit.wanting() > 0) {
            return STATE;
        }
        LawText laws = book.inForce(clock);
        suit.judge(laws);
        Citizen debtor = citizenAt(suit.debtor);
        if (debtor != null && suit.debt > MOST_DEBT - debtor.owed) {
            suit.forgetVerdict();
            return FULL;
        }
        suit.open = false;
        suitsClosed++;
        payDiscs(room, laws.answer(LawText.PAY));
        if (debtor != null) {
            addDebt(debtor, suit.debt);
        }
        return suit.verdict;
    }

    public int court(int court, int what) {
        Court room = courtAt(court);
        if (room == null) {
            return NONE;
        }
        switch (what) {
            case 0: return room.size;
            case 1: return room.sitting;
            case 2: return room.suit.open ? 1 : 0;
            default: return room.suit.answer(what);
        }
    }

    public int count(int what) {
        switch (what) {
            case 0: return citizens;
            case 1: return clock;
            case 2: return dawn.arrivals;
            case 3: return dawn.chosenOnes;
            case 4: return dawn.lots;
            case 5: return book.size;
            case 6: return tape.used;
            case 7: return suitsClosed;
            case 8: return payInAll;
            default: return NONE;
        }
    }

    // ---- what the calls share

    private static boolean isTribe(int tribe) {
        return tribe >= 0 && tribe < TRIBES;
    }

    private boolean canDraw(int tribe, int w) {
        return isTribe(tribe) && w >= 0 && w <= dawn.rowsOf(tribe);
    }

    private Citizen citizenAt(int c) {
        return c >= 0 && c < citizens ? roll[c] : null;
    }

    private Court courtAt(int court) {
        return court >= 0 && court < COURTS ? courts[court] : null;
    }

    private boolean maySit(Citizen citizen) {
        int age = book.inForce(clock).answer(LawText.AGE);
        return citizen.sworn && citizen.owed == 0 && clock - citizen.born >= age;
    }

    private boolean canBeParty(Court room, int c) {
        return citizenAt(c) != null && room.seatOf(c) == NONE;
    }

    // No debt's first day can be later than the clock's, so each strikes out one that sits in an open suit.
    private void addDebt(Citizen citizen, int sum) {
        citizen.owed += sum;
        Court room = courtAt(citizen.court);
        if (room != null) {
            room.suit.strikeOut(room.seatOf(citizen.number));
        }
    }

    private void payDiscs(Court room, int wage) {
        for (int i = 0; i < room.sitting; i++) {
            Citizen citizen = citizenAt(room.sitterAt(i));
            if (citizen != null && room.suit.counts(i)) {
                citizen.earned += wage;
                payInAll += wage;
            }
        }
    }

    private static long waysToChoose(int n, int k) {
        if (k < 0 || k > n) {
            return 0;
        }
        long ways = 1;
        for (int i = 1; i <= k; i++) {
            ways = ways * (n - k + i) / i;
        }
        return ways;
    }

    private static final class Tape {
        static final int ROOM = 1000;

        final byte[] bytes = new byte[ROOM];
        int used;

        void append(int four) {
            for (int shift = 24; shift >= 0; shift -= 8) {
                if (used < ROOM) {
                    bytes[used] = (byte) (four >> shift);
                    used++;
                }
            }
        }

        boolean isWithin(int place, int low, int high) {
            return place >= 0 && place < used && bytes[place] >= low && bytes[place] <= high;
        }

        int endOfRun(int from, int low, int high) {
            int end = from;
            while (end >= 0 && end < used && bytes[end] >= low && bytes[end] <= high) {
                end++;
            }
            return end;
        }

        int endOfBlanks(int from) {
            int end = from;
            while (end >= 0 && end < used && (bytes[end] == ' ' || bytes[end] == '\n')) {
                end++;
            }
            return end;
        }
    }

    /** A text of laws. Its values stand where law() asks for them, so that what is the index. */
    private static final class LawText {
        static final int AGE = 0;
        static final int PAY = 1;
        static final int FIFTH = 2;
        static final int TIE = 3;
        static final int WATER = 10;
        static final int OVER = 20;
        static final int BEYOND = 30;
        static final int FINE = 40;
        static final int TEXT = 50;

        final int[] values = new int[TEXT + 1];
        int firstDay;

        LawText() {
            firstDay = NONE;
            forget();
        }

        void forget() {
            Arrays.fill(values, NO_LAW);
            values[AGE] = 10950;
            values[PAY] = 3;
            values[FIFTH] = 1000;
            values[TIE] = 0;
            for (int k = 0; k < KINDS; k++) {
                values[WATER + k] = 10;
                values[OVER + k] = NONE;
                values[BEYOND + k] = 10;
                values[FINE + k] = 0;
            }
            values[TEXT] = NONE;
        }

        void copy(LawText other) {
            System.arraycopy(other.values, 0, values, 0, values.length);
        }

        int answer(int what) {
            return what >= 0 && what < values.length ? values[what] : NO_LAW;
        }

        void tell(int what, int value) {
            if (what >= 0 && what < values.length) {
                values[what] = value;
            }
        }

        int waterOf(int kind, int sum) {
            int over = answer(OVER + kind);
            return over != NONE && sum > over ? answer(BEYOND + kind) : answer(WATER + kind);
        }
    }

    private static final class LawBook {
        static final int MOST_TEXTS = 15;

        final LawText[] texts = new LawText[MOST_TEXTS];
        final LawText custom = new LawText();
        int size;

        int enact(LawText draft, int day) {
            if (size >= MOST_TEXTS) {
                return FULL;
            }
            LawText text = new LawText();
            text.copy(draft);
            text.firstDay = day;
            text.tell(LawText.TEXT, size);
            texts[size] = text;
            size++;
            return size - 1;
        }

        LawText inForce(int day) {
            LawText found = custom;
            for (int i = 0; i < size; i++) {
                LawText text = texts[i];
                // Of texts with the same first day the one told last wins, so equal days replace.
                if (text != null && text.firstDay <= day && text.firstDay >= found.firstDay) {
                    found = text;
                }
            }
            return found;
        }
    }

    /** Reads the tape token by token into its draft, up to the first fault. */
    private static final class LawReader {
        static final int SYNTAX = 1;
        static final int BEYOND_KINDS = 2;
        static final int TWICE = 3;

        static final int AT_END = 0;
        static final int WORD = 1;
        static final int NUMBER = 2;
        static final int SEMICOLON = 3;
        static final int WRONG = 4;

        static final int MOST_DIGITS = 5;

        final Tape tape;
        final LawText draft = new LawText();
        final boolean[] told = new boolean[LawText.TIE + 1];
        final boolean[] toldSuits = new boolean[KINDS];
        int faultKind;
        int faultPlace;
        int token;
        int start;
        int next;
        int number;

        LawReader(Tape tape) {
            this.tape = tape;
            faultPlace = NONE;
        }

        boolean readText() {
            startAnew();
            advance();
            boolean sound = true;
            // Each line has a token at least, so there are no more lines than bytes.
            for (int lines = 0; lines <= Tape.ROOM && sound && token != AT_END; lines++) {
                sound = readLine() && takeSemicolon();
            }
            return sound;
        }

        private void startAnew() {
            draft.forget();
            for (int i = 0; i < told.length; i++) {
                told[i] = false;
            }
            for (int i = 0; i < toldSuits.length; i++) {
                toldSuits[i] = false;
            }
            faultKind = 0;
            faultPlace = NONE;
            next = 0;
        }

        private boolean readLine() {
            if (isWord("age")) {
                return takeFirstWord(LawText.AGE) && takeNumber(LawText.AGE);
            }
            if (isWord("pay")) {
                return takeFirstWord(LawText.PAY) && takeNumber(LawText.PAY);
            }
            if (isWord("fifth")) {
                return takeFirstWord(LawText.FIFTH) && takeNumber(LawText.FIFTH);
            }
            if (isWord("tie")) {
                return takeFirstWord(LawText.TIE) && takeTie();
            }
            return takeWord("suit") && readSuit();
        }

        private boolean readSuit() {
            int kind = takeKind();
            if (kind == NONE) {
                return false;
            }
            if (!takeWord("water") || !takeNumber(LawText.WATER + kind)) {
                return false;
            }
            draft.tell(LawText.BEYOND + kind, draft.answer(LawText.WATER + kind));
            if (isWord("over")) {
                advance();
                if (!takeNumber(LawText.OVER + kind) || !takeWord("water") || !takeNumber(LawText.BEYOND + kind)) {
                    return false;
                }
            }
            return takeWord("fine") && takeNumber(LawText.FINE + kind);
        }

        private int takeKind() {
            int kind = number;
            boolean sound = true;
            if (token != NUMBER) {
                sound = fail(SYNTAX);
            } else if (kind < 0 || kind >= KINDS) {
                sound = fail(BEYOND_KINDS);
            } else if (toldSuits[kind]) {
                sound = fail(TWICE);
            } else {
                toldSuits[kind] = true;
                advance();
            }
            return sound ? kind : NONE;
        }

        private boolean takeFirstWord(int what) {
            if (what < 0 || what >= told.length || told[what]) {
                return fail(TWICE);
            }
            told[what] = true;
            advance();
            return true;
        }

        private boolean takeTie() {
            boolean convict = isWord("convict");
            if (!convict && !isWord("acquit")) {
                return fail(SYNTAX);
            }
            draft.tell(LawText.TIE, convict ? 1 : 0);
            advance();
            return true;
        }

        private boolean takeWord(String word) {
            if (!isWord(word)) {
                return fail(SYNTAX);
            }
            advance();
            return true;
        }

        private boolean takeNumber(int what) {
            if (token != NUMBER) {
                return fail(SYNTAX);
            }
            draft.tell(what, number);
            advance();
            return true;
        }

        private boolean takeSemicolon() {
            if (token != SEMICOLON) {
                return fail(SYNTAX);
            }
            advance();
            return true;
        }

        private boolean fail(int kind) {
            faultKind = kind;
            faultPlace = start;
            return false;
        }

        private boolean isWord(String word) {
            if (token != WORD || next - start != word.length()) {
                return false;
            }
            for (int i = 0; i < word.length(); i++) {
                if (!tape.isWithin(start + i, word.charAt(i), word.charAt(i))) {
                    return false;
                }
            }
            return true;
        }

        private void advance() {
            start = tape.endOfBlanks(next);
            next = start + 1;
            if (start >= tape.used) {
                next = start;
                token = AT_END;
            } else if (tape.isWithin(start, 'a', 'z')) {
                next = tape.endOfRun(start, 'a', 'z');
                token = WORD;
            } else if (tape.isWithin(start, '0', '9')) {
                next = tape.endOfRun(start, '0', '9');
                token = readDigits() ? NUMBER : WRONG;
            } else {
                token = tape.isWithin(start, ';', ';') ? SEMICOLON : WRONG;
            }
        }

        private boolean readDigits() {
            number = 0;
            if (next - start > MOST_DIGITS || start < 0 || next > Tape.ROOM) {
                return false;
            }
            for (int i = start; i < next; i++) {
                number = number * 10 + tape.bytes[i] - '0';
            }
            return true;
        }
    }

    private static final class Citizen {
        final int number;
        final int tribe;
        final int letter;
        final int born;
        boolean sworn;
        int owed;
        int earned;
        int place;
        boolean chosen;
        int court;

        Citizen(int number, int tribe, int letter, int born) {
            this.number = number;
            this.tribe = tribe;
            this.letter = letter;
            this.born = born;
            place = NONE;
            court = NONE;
        }

        boolean holds(int ofTribe, int ofLetter, int atPlace) {
            return tribe == ofTribe && letter == ofLetter && place == atPlace;
        }

        void leave() {
            place = NONE;
            chosen = false;
            court = NONE;
        }
    }

    /** Who came today, in which column and place, and who is chosen of them. */
    private static final class Dawn {
        final Citizen[] came = new Citizen[MOST_CITIZENS];
        final int[] columns = new int[TRIBES * LETTERS];
        final boolean[] drawn = new boolean[TRIBES];
        final Citizen[] chosen = new Citizen[MOST_CITIZENS];
        int arrivals;
        int chosenOnes;
        int lots;

        void clear() {
            for (int i = 0; i < arrivals; i++) {
                Citizen citizen = came[i];
                if (citizen != null) {
                    citizen.leave();
                }
            }
            Arrays.fill(columns, 0);
            for (int i = 0; i < TRIBES; i++) {
                drawn[i] = false;
            }
            arrivals = 0;
            chosenOnes = 0;
            lots = 0;
        }

        int admit(Citizen citizen) {
            int column = citizen.tribe * LETTERS + citizen.letter;
            if (arrivals >= MOST_CITIZENS || column < 0 || column >= columns.length) {
                return STATE;
            }
            came[arrivals] = citizen;
            arrivals++;
            citizen.place = columns[column];
            columns[column]++;
            return columns[column];
        }

        boolean hasDrawn(int tribe) {
            return isTribe(tribe) && drawn[tribe];
        }

        int rowsOf(int tribe) {
            if (!isTribe(tribe)) {
                return 0;
            }
            int shortest = MOST_CITIZENS;
            for (int letter = 0; letter < LETTERS; letter++) {
                shortest = Math.min(shortest, columns[tribe * LETTERS + letter]);
            }
            return shortest;
        }

        // The ways that begin with a row stand ahead of those that begin with a later one.
        int chooseRows(int tribe, int w, long number) {
            if (!isTribe(tribe)) {
                return RANGE;
            }
            int rows = rowsOf(tribe);
            int wanted = w;
            long left = number;
            int before = chosenOnes;
            for (int row = 0; row < rows && wanted > 0; row++) {
                long waysWithRow = waysToChoose(rows - row - 1, wanted - 1);
                if (left < waysWithRow) {
                    chooseRow(tribe, row);
                    wanted--;
                } else {
                    left -= waysWithRow;
                }
            }
            drawn[tribe] = true;
            return chosenOnes - before;
        }

        private void chooseRow(int tribe, int row) {
            for (int letter = 0; letter < LETTERS; letter++) {
                Citizen citizen = ticketAt(tribe, letter, row);
                if (citizen != null && chosenOnes < MOST_CITIZENS) {
                    citizen.chosen = true;
                    chosen[chosenOnes] = citizen;
                    chosenOnes++;
                }
            }
        }

        private Citizen ticketAt(int tribe, int letter, int place) {
            for (int i = 0; i < arrivals; i++) {
                Citizen citizen = came[i];
                if (citizen != null && citizen.holds(tribe, letter, place)) {
                    return citizen;
                }
            }
            return null;
        }

        Citizen chosenAt(int i) {
            return i >= 0 && i < chosenOnes ? chosen[i] : null;
        }
    }

    /** Counts draws by their bribed ones. Rows without any are all alike, so only the others are gone through. */
    private static final class BribeCounter {
        static final int TOLD_ROWS = 12;
        static final int ROW_BITS = 31;
        static final int MOST_BRIBED = TOLD_ROWS * LETTERS;

        // ways[k][s]: how many choices of k of the bribed rows looked at so far have s bribed ones.
        final long[][] ways = new long[TOLD_ROWS + 1][MOST_BRIBED + 1];

        static boolean fits(long bits, int rows) {
            int told = Math.min(rows, TOLD_ROWS) * LETTERS;
            return bits >>> told == 0;
        }

        long waysWithAtLeast(int rows, int w, long bits, int m) {
            int bribedRows = tellRows(bits);
            long sum = 0;
            for (int k = 0; k <= bribedRows; k++) {
                long others = waysToChoose(rows - bribedRows, w - k);
                for (int s = Math.max(m, 0); s <= MOST_BRIBED && others > 0; s++) {
                    sum += ways[k][s] * others;
                }
            }
            return sum;
        }

        private int tellRows(long bits) {
            for (int k = 0; k <= TOLD_ROWS; k++) {
                Arrays.fill(ways[k], 0);
            }
            ways[0][0] = 1;
            int bribedRows = 0;
            for (int row = 0; row < TOLD_ROWS; row++) {
                int bribed = Long.bitCount(bits >>> row * LETTERS & ROW_BITS);
                if (bribed > 0) {
                    addRow(bribedRows, bribed);
                    bribedRows++;
                }
            }
            return bribedRows;
        }

        // From the highest k down, so that no choice takes the new row twice.
        private void addRow(int rowsBefore, int bribed) {
            for (int k = Math.min(rowsBefore, TOLD_ROWS - 1); k >= 0; k--) {
                for (int s = 0; s + bribed <= MOST_BRIBED; s++) {
                    ways[k + 1][s + bribed] += ways[k][s];
                }
            }
        }
    }

    private static final class Court {
        final int[] seats = new int[MOST_SEATS];
        final Suit suit = new Suit();
        int size;
        int sitting;

        void shut() {
            size = 0;
            sitting = 0;
            suit.vanish();
        }

        boolean isFull() {
            return sitting >= size;
        }

        void take(int c) {
            if (sitting < MOST_SEATS) {
                seats[sitting] = c;
                sitting++;
            }
        }

        int sitterAt(int i) {
            return i >= 0 && i < sitting ? seats[i] : NONE;
        }

        int seatOf(int c) {
            for (int i = 0; i < sitting; i++) {
                if (seats[i] == c) {
                    return i;
                }
            }
            return NONE;
        }
    }

    /** A court's latest suit today; its discs stand by seats. */
    private static final class Suit {
        static final int UNTOLD = -1;
        static final int CONVICTS = 1;

        final int[] discs = new int[MOST_SEATS];
        final boolean[] struck = new boolean[MOST_SEATS];
        final int[] water = new int[2];
        boolean begun;
        boolean open;
        int seats;
        int kind;
        int accuser;
        int accused;
        int sum;
        boolean accuserSpoke;
        boolean witnessHeard;
        boolean discTold;
        int verdict;
        int debtor;
        int debt;

        void vanish() {
            begun = false;
            open = false;
        }

        void begin(int kind, int accuser, int accused, int sum) {
            this.kind = kind;
            this.accuser = accuser;
            this.accused = accused;
            this.sum = sum;
            begun = true;
            open = true;
        }

        void prepare(int size, int minutes) {
            seats = Math.min(size, MOST_SEATS);
            Arrays.fill(discs, UNTOLD);
            for (int i = 0; i < MOST_SEATS; i++) {
                struck[i] = false;
            }
            Arrays.fill(water, minutes);
            accuserSpoke = false;
            witnessHeard = false;
            discTold = false;
            forgetVerdict();
        }

        void forgetVerdict() {
            verdict = NONE;
            debtor = NONE;
            debt = NONE;
        }

        int hearWords(int side, int minutes) {
            if (!open || witnessHeard || discTold || side == 1 && !accuserSpoke) {
                return STATE;
            }
            if (side < 0 || side >= water.length || minutes > water[side]) {
                return STATE;
            }
            accuserSpoke = true;
            water[side] -= minutes;
            return water[side];
        }

        int turnWitness() {
            if (!open || discTold) {
                return STATE;
            }
            witnessHeard = !witnessHeard;
            return witnessHeard ? 1 : 0;
        }

        int takeDisc(int seat, int disc) {
            if (!open || witnessHeard || seat < 0 || seat >= seats) {
                return STATE;
            }
            if (struck[seat] || discs[seat] != UNTOLD) {
                return STATE;
            }
            discs[seat] = disc;
            discTold = true;
            return wanting();
        }

        void strikeOut(int seat) {
            if (open && seat >= 0 && seat < seats) {
                struck[seat] = true;
            }
        }

        void judge(LawText laws) {
            int all = counted();
            int convicting = convicting();
            boolean tiesConvict = laws.answer(LawText.TIE) == 1;
            boolean convicted = 2 * convicting > all || tiesConvict && 2 * convicting == all;
            verdict = convicted ? 1 : 0;
            debtor = NONE;
            debt = 0;
            if (convicted) {
                charge(accused, laws.answer(LawText.FINE + kind) + sum);
            } else if (5 * convicting < all) {
                charge(accuser, laws.answer(LawText.FIFTH));
            }
        }

        // Of nothing no debt comes to be, so one who would owe 0 doesn't owe.
        private void charge(int party, int owed) {
            if (owed > 0) {
                debtor = party;
                debt = owed;
            }
        }

        boolean counts(int seat) {
            return seat >= 0 && seat < seats && !struck[seat] && discs[seat] != UNTOLD;
        }

        int counted() {
            int found = 0;
            for (int i = 0; i < seats; i++) {
                found += counts(i) ? 1 : 0;
            }
            return found;
        }

        int convicting() {
            int found = 0;
            for (int i = 0; i < seats; i++) {
                found += counts(i) && discs[i] == CONVICTS ? 1 : 0;
            }
            return found;
        }

        int struckOut() {
            int found = 0;
            for (int i = 0; i < seats; i++) {
                found += struck[i] ? 1 : 0;
            }
            return found;
        }

        int wanting() {
            return seats - counted() - struckOut();
        }

        int answer(int what) {
            if (!begun) {
                return NONE;
            }
            switch (what) {
                case 3: return kind;
                case 4: return accuser;
                case 5: return accused;
                case 6: return sum;
                case 7: return water[0];
                case 8: return water[1];
                case 9: return counted();
                case 10: return open && wanting() > 0 ? NONE : convicting();
                case 11: return struckOut();
                case 12: return verdict;
                case 13: return debtor;
                case 14: return debt;
                default: return NONE;
            }
        }
    }
}
