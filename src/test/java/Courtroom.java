/** Courts that are full, and discs told in them, as the tests of courts want them. */
final class Courtroom {
    // The parties come on the roll first and never come at dawn, so that the seats begin with 4.
    static final int ACCUSER = 0;
    static final int ACCUSED = 1;
    static final int FIRST_SEAT = 4;

    private Courtroom() {
    }

    static LotMachine withChosen(int rows) {
        LotMachine x = new LotMachine();
        for (int i = 0; i < FIRST_SEAT; i++) {
            Check.sworn(x, 9, i);
        }
        Check.rowsCome(x, 0, rows);
        x.draw(0, rows, 0);
        return x;
    }

    static void fill(LotMachine x, int court, int size) {
        x.open(court, size);
        for (int i = 0; i < size; i++) {
            x.lot(court);
        }
    }

    /** Court 0 is full with citizens 4 and on. */
    static LotMachine withCourt(int size) {
        LotMachine x = withChosen((size + 4) / 5);
        fill(x, 0, size);
        return x;
    }

    /** Court 0 is full, and a suit of kind 0 is open in it. */
    static LotMachine withSuit(int size, int sum) {
        LotMachine x = withCourt(size);
        x.suit(0, 0, ACCUSER, ACCUSED, sum);
        return x;
    }

    /** The first so many of those that sit in court 0 convict, the rest acquit. */
    static void tellDiscs(LotMachine x, int size, int convicting) {
        for (int i = 0; i < size; i++) {
            x.disc(0, FIRST_SEAT + i, i < convicting ? 1 : 0);
        }
    }
}
