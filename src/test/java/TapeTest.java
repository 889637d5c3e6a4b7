/** Promises 1 to 3, and of "Terms" what the tape is. */
public final class TapeTest {
    private static final Class<IllegalStateException> STATE = IllegalStateException.class;
    private static final Class<IllegalArgumentException> ARGUMENT = IllegalArgumentException.class;

    private TapeTest() {
    }

    public static void main(String[] args) {
        newObject();
        newObjectAlone();
        newTape();
        emptyTape();
        feedOrder();
        feedReturns();
        feedTooMuch();
        feedBehindTrim();
        trimWrong();
        trimToAll();
        trimToNone();
        trimKeepsTheFirst();
        Check.end();
    }

    private static LampLighters tape(int bytes) {
        LampLighters x = new LampLighters();
        Books.feed(x, " ".repeat(bytes));
        return x;
    }

    private static int feedBlanks(LampLighters x) {
        return x.feed(0x20202020, 0x20202020, 0x0a0a0a0a, 0x20202020, 0x20202020);
    }

    private static void newObject() {
        Check.about("Promise 1: a street without lamps, rounds and lighters, in the night 0");
        LampLighters x = new LampLighters();
        Check.same("lamps", x.lamps(), 0);
        Check.same("rounds", x.rounds(), 0);
        Check.same("acts", x.acts(), 0);
        Check.same("lighters", x.lighters(), 0);
        Check.same("night", x.night(), 0);
        Check.same("quarter", x.quarter(), 0);
        Check.same("moonlight", x.moonlight(), 0);
        Check.same("isOff", x.isOff(), false);
        Check.same("litLamps", x.litLamps(), 0);
        Check.same("oilBurnt", x.oilBurnt(), 0);
        Check.same("setClouds", x.setClouds(true), false);
        Check.same("passNights", x.passNights(1), 0);
    }

    private static void newObjectAlone() {
        Check.about("Promise 1: a new object has nothing of another one");
        LampLighters x = Books.street("lamp a at 0 holds 1;round r(light;)", 9);
        x.assign(0, 0);
        x.passNights(1);
        Books.feed(x, "lamp");
        LampLighters other = new LampLighters();
        Check.same("its night", other.night(), 0);
        Check.same("its lamps", other.lamps(), 0);
        Check.same("its lighters", other.lighters(), 0);
        Check.same("its tape", feedBlanks(other), 20);
        Check.same("the first one's night", x.night(), 1);
        Check.same("the first one's tape", feedBlanks(x), 24);
    }

    private static void newTape() {
        Check.about("Terms, the book: the tape is at first empty");
        LampLighters x = new LampLighters();
        Check.refuses("trim(1)", x, ARGUMENT, () -> x.trim(1));
        Check.same("trim(0)", x.trim(0), 0);
        Check.same("feed", feedBlanks(x), 20);
    }

    private static void emptyTape() {
        Check.about("Terms, the book: an empty tape is a book without lamps and rounds");
        LampLighters x = new LampLighters();
        Check.same("teach", x.teach(), 0);
        Check.same("errorAt", x.errorAt(), -1);
        Check.same("lamps", x.lamps(), 0);
        Check.same("rounds", x.rounds(), 0);
    }

    private static void feedOrder() {
        Check.about("Promise 2: the four bytes of each number, the highest one first");
        int[] numbers = new int[5];
        for (int at = 0; at < 20; at++) {
            for (int i = 0; i < 5; i++) {
                numbers[i] = 0x20202020;
            }
            numbers[at / 4] |= 0xff << 24 - at % 4 * 8;
            LampLighters x = new LampLighters();
            x.feed(numbers[0], numbers[1], numbers[2], numbers[3], numbers[4]);
            Check.same("teach with a wrong byte at " + at, x.teach(), 1);
            Check.same("errorAt with a wrong byte at " + at, x.errorAt(), at);
        }
        LampLighters y = new LampLighters();
        y.feed(0x6c616d70, 0x20612061, 0x74203220, 0x686f6c64, 0x7320393b);
        Check.same("teach of lamp a at 2 holds 9;", y.teach(), 0);
        Check.same("its post", y.postOf(0), 2);
        Check.same("its room", y.roomOf(0), 9);
    }

    private static void feedReturns() {
        Check.about("Promise 2: up to 1600 bytes, their number is returned");
        LampLighters x = new LampLighters();
        for (int n = 1; n <= 80; n++) {
            Check.same("feed " + n, feedBlanks(x), 20 * n);
        }
        LampLighters y = tape(1580);
        Check.same("feed at 1580", y.feed(0x20202020, 0x20202020, 0x20202020, 0x20202020, 0x6c616d70), 1600);
        Check.same("teach of a full tape", y.teach(), 1);
        Check.same("its last byte is read", y.errorAt(), 1600);
    }

    private static void feedTooMuch() {
        Check.about("Promise 2: IllegalStateException if there would be more than 1600");
        for (int bytes : new int[] {1581, 1590, 1599, 1600}) {
            LampLighters x = tape(bytes);
            Check.refuses("feed at " + bytes, x, STATE, () -> feedBlanks(x));
            Check.refuses("feed at " + bytes + " once more", x, STATE, () -> feedBlanks(x));
            Check.refuses("trim behind a refused feed", x, ARGUMENT, () -> x.trim(bytes + 1));
            Check.same("all is kept behind a refused feed", x.trim(bytes), bytes);
        }
    }

    private static void feedBehindTrim() {
        Check.about("Promise 2: a full tape takes bytes again behind trim and teach");
        LampLighters x = tape(1600);
        x.trim(1581);
        Check.refuses("feed at 1581", x, STATE, () -> feedBlanks(x));
        x.trim(1580);
        Check.same("feed at 1580", feedBlanks(x), 1600);
        x.teach();
        Check.same("feed behind teach", feedBlanks(x), 20);
    }

    private static void trimWrong() {
        Check.about("Promise 3: IllegalArgumentException if bytes is not 0 to the number of bytes of the tape");
        for (int bytes : new int[] {0, 1, 13, 20, 1600}) {
            LampLighters x = tape(bytes);
            for (int wrong : new int[] {-1, bytes + 1, 1601, Integer.MIN_VALUE, Integer.MAX_VALUE}) {
                Check.refuses("trim(" + wrong + ") of " + bytes, x, ARGUMENT, () -> x.trim(wrong));
            }
            Check.same("trim of all " + bytes, x.trim(bytes), bytes);
        }
        LampLighters y = tape(20);
        y.trim(7);
        Check.refuses("trim to more than was kept", y, ARGUMENT, () -> y.trim(8));
    }

    private static void trimToAll() {
        Check.about("Promise 3: trim to all bytes keeps all");
        LampLighters x = new LampLighters();
        Books.feed(x, "round r()lamp");
        Check.same("trim(13) of 13", x.trim(13), 13);
        Check.same("teach", x.teach(), 1);
        Check.same("errorAt", x.errorAt(), 9);
    }

    private static void trimToNone() {
        Check.about("Promise 3: trim to 0 keeps nothing");
        LampLighters x = new LampLighters();
        Books.feed(x, "round r()lamp");
        Check.same("trim(0) of 13", x.trim(0), 0);
        Check.refuses("trim(1) of nothing", x, ARGUMENT, () -> x.trim(1));
        Check.same("teach", x.teach(), 0);
        Check.same("rounds", x.rounds(), 0);
    }

    private static void trimKeepsTheFirst() {
        Check.about("Promise 3: trim keeps the first bytes, and feed goes on behind them");
        LampLighters x = new LampLighters();
        Books.feed(x, "round r()lamp");
        Check.same("trim(9) of 13", x.trim(9), 9);
        Check.same("feed", feedBlanks(x), 29);
        Check.same("teach", x.teach(), 0);
        Check.same("rounds", x.rounds(), 1);
    }
}
