/** Promises 9 to 12 and 18 to 25: what is done by hand, and how lamps stand and burn. */
public final class LampTest {
    private static final String BOOK = "lamp a at 3 holds 2;lamp b at 0 holds 30;lamp c at 29 holds 1;";
    private static final int[] WRONG = {-1, 3, 10, Integer.MAX_VALUE, Integer.MIN_VALUE};

    private LampTest() {
    }

    public static void main(String[] args) {
        atFirst();
        light();
        burn();
        wick();
        douse();
        fill();
        trim();
        dark();
        wrongLamps();
        Check.end();
    }

    private static void atFirst() {
        LampLighters x = Books.street(BOOK);
        int[] posts = {3, 0, 29};
        int[] rooms = {2, 30, 1};
        for (int i = 0; i < 3; i++) {
            Check.same("postOf " + i, x.postOf(i), posts[i]);
            Check.same("roomOf " + i, x.roomOf(i), rooms[i]);
            Check.same("oilOf " + i, x.oilOf(i), rooms[i]);
            Check.same("wickOf " + i, x.wickOf(i), 10);
            Check.same("isLit " + i, x.isLit(i), false);
            Check.same("darkOf " + i, x.darkOf(i), 0);
        }
        Check.same("litLamps at first", x.litLamps(), 0);
        Check.same("oilBurnt at first", x.oilBurnt(), 0);
    }

    private static void light() {
        LampLighters x = Books.street(BOOK);
        Check.same("lightLamp", x.lightLamp(1), true);
        Check.same("isLit of it", x.isLit(1), true);
        Check.same("isLit of another", x.isLit(0), false);
        Check.same("litLamps", x.litLamps(), 1);
        Check.same("lightLamp once more", x.lightLamp(1), true);
        Check.same("lightLamp of the last", x.lightLamp(2), true);
        Check.same("litLamps of two", x.litLamps(), 2);
        x.passQuarters(2);
        Check.same("no oil, not lit", x.isLit(2), false);
        Check.same("lightLamp without oil", x.lightLamp(2), false);
        Check.same("isLit without oil", x.isLit(2), false);
        x.fillLamp(2, 1);
        Check.same("oil alone doesn't light", x.isLit(2), false);
        Check.same("lightLamp with oil", x.lightLamp(2), true);
    }

    private static void burn() {
        LampLighters x = Books.street(BOOK);
        x.lightLamp(0);
        x.passQuarters(1);
        Check.same("oil behind 1", x.oilOf(0), 2);
        x.passQuarters(1);
        Check.same("oil behind 2", x.oilOf(0), 1);
        Check.same("wick behind 2", x.wickOf(0), 10);
        Check.same("oilBurnt behind 2", x.oilBurnt(), 1);
        x.passQuarters(1);
        Check.same("lit behind 3", x.isLit(0), true);
        x.douseLamp(0);
        x.passQuarters(5);
        Check.same("a clock stands while it isn't lit", x.oilOf(0), 1);
        x.lightLamp(0);
        x.passQuarters(1);
        Check.same("a clock goes on", x.oilOf(0), 0);
        Check.same("wick behind 4", x.wickOf(0), 9);
        Check.same("lit behind 4", x.isLit(0), false);
        Check.same("oilBurnt behind 4", x.oilBurnt(), 2);
        Check.same("no other burns", x.oilOf(1), 30);
        x.fillLamp(0, 2);
        x.lightLamp(0);
        x.passQuarters(1);
        Check.same("a clock isn't set back by filling", x.oilOf(0), 2);
        x.passQuarters(1);
        Check.same("oil behind 6", x.oilOf(0), 1);
        Check.same("wick behind 6", x.wickOf(0), 9);
    }

    private static void wick() {
        LampLighters x = Books.street(BOOK);
        x.lightLamp(1);
        x.passQuarters(39);
        Check.same("wick behind 39", x.wickOf(1), 1);
        Check.same("lit behind 39", x.isLit(1), true);
        x.passQuarters(1);
        Check.same("wick behind 40", x.wickOf(1), 0);
        Check.same("oil behind 40", x.oilOf(1), 10);
        Check.same("lightLamp without a wick", x.lightLamp(1), false);
        Check.same("isLit without a wick", x.isLit(1), false);
        Check.same("trimLamp of no wick", x.trimLamp(1), 0);
        Check.same("lightLamp with a wick", x.lightLamp(1), true);
        x.passQuarters(4);
        Check.same("wick behind 44", x.wickOf(1), 9);
        LampLighters y = Books.street(BOOK);
        y.passQuarters(1);
        y.lightLamp(1);
        y.passQuarters(39);
        y.lightLamp(1);
        y.passQuarters(1);
        Check.same("no wick puts out within a night", y.isLit(1), false);
        Check.same("oil is left then", y.oilOf(1), 10);
    }

    private static void douse() {
        LampLighters x = Books.street(BOOK);
        Check.same("douseLamp of none lit", x.douseLamp(0), false);
        x.lightLamp(0);
        x.lightLamp(1);
        Check.same("douseLamp", x.douseLamp(0), true);
        Check.same("isLit of it", x.isLit(0), false);
        Check.same("isLit of another", x.isLit(1), true);
        Check.same("douseLamp once more", x.douseLamp(0), false);
        Check.same("litLamps", x.litLamps(), 1);
    }

    private static void fill() {
        LampLighters x = Books.street(BOOK);
        x.lightLamp(1);
        x.passQuarters(20);
        Check.same("oil ahead of it", x.oilOf(1), 20);
        Check.same("fillLamp 1", x.fillLamp(1, 1), 21);
        Check.same("fillLamp 5", x.fillLamp(1, 5), 26);
        Check.same("fillLamp of too much", x.fillLamp(1, 30), 30);
        Check.same("fillLamp of a full one", x.fillLamp(1, 1), 30);
        Check.same("oilOf", x.oilOf(1), 30);
        Check.same("a small one", x.fillLamp(2, 30), 1);
        Check.same("filling doesn't burn", x.oilBurnt(), 10);
        for (int oil : new int[] {0, -1, 31, Integer.MAX_VALUE, Integer.MIN_VALUE}) {
            Check.refuses("fillLamp of " + oil, x, IllegalArgumentException.class, () -> x.fillLamp(0, oil));
            Check.refuses("fillLamp of no lamp and " + oil, x, IndexOutOfBoundsException.class,
                () -> x.fillLamp(3, oil));
        }
    }

    private static void trim() {
        LampLighters x = Books.street(BOOK);
        Check.same("trimLamp of a whole wick", x.trimLamp(1), 10);
        x.lightLamp(1);
        x.passQuarters(12);
        Check.same("trimLamp", x.trimLamp(1), 7);
        Check.same("wickOf", x.wickOf(1), 10);
        Check.same("it is lit still", x.isLit(1), true);
        Check.same("of no other", x.trimLamp(0), 10);
    }

    private static void dark() {
        LampLighters x = Books.street(BOOK);
        x.lightLamp(1);
        Check.same("dark quarters", x.passQuarters(3), 6);
        Check.same("darkOf of one not lit", x.darkOf(0), 3);
        Check.same("darkOf of a lit one", x.darkOf(1), 0);
        x.lightLamp(2);
        Check.same("dark quarters as it goes out", x.passQuarters(3), 4);
        Check.same("darkOf of one that goes out", x.darkOf(2), 4);
        Check.same("darkOf in all", x.darkOf(0), 6);
        x.setClouds(true);
        x.passNights(5);
        Check.same("darkOf of nights", x.darkOf(0), 206);
    }

    private static void wrongLamps() {
        LampLighters none = new LampLighters();
        Check.refuses("oilOf of no lamps", none, IndexOutOfBoundsException.class, () -> none.oilOf(0));
        LampLighters x = Books.street(BOOK, 9);
        for (int lamp : WRONG) {
            Check.refuses("lightLamp", x, IndexOutOfBoundsException.class, () -> x.lightLamp(lamp));
            Check.refuses("douseLamp", x, IndexOutOfBoundsException.class, () -> x.douseLamp(lamp));
            Check.refuses("fillLamp", x, IndexOutOfBoundsException.class, () -> x.fillLamp(lamp, 1));
            Check.refuses("trimLamp", x, IndexOutOfBoundsException.class, () -> x.trimLamp(lamp));
            Check.refuses("postOf", x, IndexOutOfBoundsException.class, () -> x.postOf(lamp));
            Check.refuses("roomOf", x, IndexOutOfBoundsException.class, () -> x.roomOf(lamp));
            Check.refuses("oilOf", x, IndexOutOfBoundsException.class, () -> x.oilOf(lamp));
            Check.refuses("wickOf", x, IndexOutOfBoundsException.class, () -> x.wickOf(lamp));
            Check.refuses("isLit", x, IndexOutOfBoundsException.class, () -> x.isLit(lamp));
            Check.refuses("darkOf", x, IndexOutOfBoundsException.class, () -> x.darkOf(lamp));
            Check.refuses("quartersUntilLit", x, IndexOutOfBoundsException.class, () -> x.quartersUntilLit(lamp));
        }
        Books.teach(x, "lamp a at 1 holds 1;");
        Check.refuses("a lamp of the book before", x, IndexOutOfBoundsException.class, () -> x.isLit(1));
    }
}
