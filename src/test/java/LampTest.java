/** Promises 9 to 12 and 18 to 25, and of "Terms" what a lamp is: what is done by hand, how lamps stand and burn. */
public final class LampTest {
    private static final Class<IndexOutOfBoundsException> INDEX = IndexOutOfBoundsException.class;
    private static final Class<IllegalArgumentException> ARGUMENT = IllegalArgumentException.class;
    private static final String BOOK = "lamp a at 3 holds 2;lamp b at 0 holds 30;lamp c at 29 holds 1;";
    private static final int A = 0;
    private static final int B = 1;
    private static final int C = 2;

    private LampTest() {
    }

    public static void main(String[] args) {
        atFirst();
        orderOfTheBook();
        postsAndRooms();
        wrongLamps();
        wrongLampsWithoutLamps();
        wrongLampsBehindTeach();
        light();
        lightALitOne();
        lightWithoutOil();
        lightWithoutAWick();
        lightWithTheLeast();
        douse();
        fill();
        fillTheLeastAndTheMost();
        fillTooMuch();
        fillLosesWhatHasNoRoom();
        fillAlone();
        trim();
        trimNoWick();
        burnOil();
        burnTheLastOil();
        burnTheWick();
        burnTheLastOfTheWick();
        clockStands();
        clockIsNotSetBack();
        clockOfDawn();
        dark();
        darkAsItGoesOut();
        litLamps();
        oilBurnt();
        Check.end();
    }

    private static void atFirst() {
        Check.about("Terms, lamps: all oil that it holds, a wick of 10, a clock of 0, not lit, at first");
        LampLighters x = Books.street(BOOK);
        int[] rooms = {2, 30, 1};
        for (int i = 0; i < 3; i++) {
            Check.same("oilOf " + i, x.oilOf(i), rooms[i]);
            Check.same("wickOf " + i, x.wickOf(i), 10);
            Check.same("isLit " + i, x.isLit(i), false);
            Check.same("darkOf " + i, x.darkOf(i), 0);
        }
        x.lightLamp(B);
        x.passQuarters(1);
        Check.same("oil behind the clock's 1", x.oilOf(B), 30);
        x.passQuarters(1);
        Check.same("oil behind the clock's 2", x.oilOf(B), 29);
    }

    private static void orderOfTheBook() {
        Check.about("Terms, lamps: numbered from 0 in the order of the book, up to 10 of them");
        LampLighters x = Books.street(Books.lamps(10));
        for (int i = 0; i < 10; i++) {
            Check.same("postOf " + i, x.postOf(i), i);
            Check.same("roomOf " + i, x.roomOf(i), i + 1);
            Check.same("oilOf " + i, x.oilOf(i), i + 1);
            Check.same("lightLamp " + i, x.lightLamp(i), true);
            Check.same("litLamps behind " + i, x.litLamps(), i + 1);
        }
        LampLighters y = Books.street(BOOK);
        Check.same("postOf 0", y.postOf(0), 3);
        Check.same("postOf 1", y.postOf(1), 0);
        Check.same("postOf 2", y.postOf(2), 29);
    }

    private static void postsAndRooms() {
        Check.about("Promises 18 and 19: posts 0 to 29, rooms 1 to 30");
        LampLighters x = Books.street("lamp a at 0 holds 1;lamp b at 29 holds 30;");
        Check.same("the first post", x.postOf(0), 0);
        Check.same("the last post", x.postOf(1), 29);
        Check.same("the smallest room", x.roomOf(0), 1);
        Check.same("the largest room", x.roomOf(1), 30);
        x.lightLamp(1);
        x.passNights(1);
        Check.same("the room stays", x.roomOf(1), 30);
    }

    private static void refusesAll(String where, LampLighters x, int lamp) {
        String[] names = {"Promise 9: lightLamp", "Promise 10: douseLamp", "Promise 11: fillLamp", "Promise 12: trimLamp",
            "Promise 18: postOf", "Promise 19: roomOf", "Promise 20: oilOf", "Promise 21: wickOf", "Promise 22: isLit",
            "Promise 23: darkOf", "Promise 39: quartersUntilLit"};
        Check.Call[] calls = {() -> x.lightLamp(lamp), () -> x.douseLamp(lamp), () -> x.fillLamp(lamp, 1),
            () -> x.trimLamp(lamp), () -> x.postOf(lamp), () -> x.roomOf(lamp), () -> x.oilOf(lamp), () -> x.wickOf(lamp),
            () -> x.isLit(lamp), () -> x.darkOf(lamp), () -> x.quartersUntilLit(lamp)};
        for (int i = 0; i < calls.length; i++) {
            Check.about(names[i] + ": IndexOutOfBoundsException if there is no such lamp, " + where);
            Check.refuses("lamp " + lamp, x, INDEX, calls[i]);
        }
    }

    private static void wrongLamps() {
        // Promises 9 to 12, 18 to 23 and 39: no such lamp, of some and of ten
        LampLighters x = Books.street(BOOK, 9);
        for (int lamp : new int[] {-1, 3, 9, 10, Integer.MAX_VALUE, Integer.MIN_VALUE}) {
            refusesAll("of three", x, lamp);
        }
        LampLighters full = Books.street(Books.lamps(10), 9);
        for (int lamp : new int[] {-1, 10, 11, Integer.MAX_VALUE, Integer.MIN_VALUE}) {
            refusesAll("of ten", full, lamp);
        }
    }

    private static void wrongLampsWithoutLamps() {
        // Promises 9 to 12, 18 to 23 and 39: no such lamp, if there are none
        LampLighters x = new LampLighters();
        LampLighters y = Books.street("round r(light;)", 9);
        for (int lamp : new int[] {0, -1, 1}) {
            refusesAll("of a new object", x, lamp);
            refusesAll("of a book without lamps", y, lamp);
        }
    }

    private static void wrongLampsBehindTeach() {
        // Promises 9 to 12, 18 to 23 and 39: no such lamp, as the book of latest teach without error has none
        LampLighters x = Books.street(BOOK);
        Books.teach(x, Books.lamps(5) + "x");
        refusesAll("as teach had an error", x, 3);
        Books.teach(x, "lamp a at 1 holds 1;");
        refusesAll("of the book before", x, 1);
        x.teach();
        refusesAll("of an empty book", x, 0);
    }

    private static void light() {
        Check.about("Promise 9: lights a lamp, returns whether it is lit then");
        LampLighters x = Books.street(BOOK);
        Check.same("lightLamp", x.lightLamp(B), true);
        Check.same("isLit of it", x.isLit(B), true);
        Check.same("isLit of another", x.isLit(A), false);
    }

    private static void lightALitOne() {
        Check.about("Promise 9: a lamp that is lit is lit once more");
        LampLighters x = Books.street(BOOK);
        x.lightLamp(B);
        x.passQuarters(1);
        Check.same("lightLamp once more", x.lightLamp(B), true);
        Check.same("isLit", x.isLit(B), true);
        x.passQuarters(1);
        Check.same("its clock goes on", x.oilOf(B), 29);
    }

    private static void lightWithoutOil() {
        Check.about("Promise 9, and Terms, lamps: without oil it is not lit");
        LampLighters x = Books.street(BOOK);
        x.lightLamp(C);
        x.passQuarters(2);
        Check.same("oilOf", x.oilOf(C), 0);
        Check.same("wickOf", x.wickOf(C), 10);
        Check.same("lightLamp", x.lightLamp(C), false);
        Check.same("isLit", x.isLit(C), false);
        Check.same("it is dark", x.passQuarters(1), 3);
        Check.same("no oil burns", x.oilBurnt(), 1);
        x.fillLamp(C, 1);
        Check.same("oil alone doesn't light it", x.isLit(C), false);
        Check.same("lightLamp with oil", x.lightLamp(C), true);
    }

    /** A street on which the wick of the lamp b is 0, and 10 oil are left in it. */
    private static LampLighters noWick() {
        LampLighters x = Books.street(BOOK);
        x.lightLamp(B);
        x.passQuarters(40);
        return x;
    }

    private static void lightWithoutAWick() {
        Check.about("Promise 9, and Terms, lamps: with a wick of 0 it is not lit");
        LampLighters x = noWick();
        Check.same("oilOf", x.oilOf(B), 10);
        Check.same("wickOf", x.wickOf(B), 0);
        Check.same("lightLamp", x.lightLamp(B), false);
        Check.same("isLit", x.isLit(B), false);
        Check.same("it is dark", x.passQuarters(1), 3);
        x.trimLamp(B);
        Check.same("a wick alone doesn't light it", x.isLit(B), false);
        Check.same("lightLamp with a wick", x.lightLamp(B), true);
    }

    private static void lightWithTheLeast() {
        Check.about("Terms, lamps: with 1 oil, or with a wick of 1, it is lit");
        LampLighters x = Books.street(BOOK);
        Check.same("oilOf", x.oilOf(C), 1);
        Check.same("lightLamp with 1 oil", x.lightLamp(C), true);
        LampLighters y = Books.street(BOOK);
        y.lightLamp(B);
        y.passQuarters(36);
        y.douseLamp(B);
        Check.same("wickOf", y.wickOf(B), 1);
        Check.same("lightLamp with a wick of 1", y.lightLamp(B), true);
    }

    private static void douse() {
        Check.about("Promise 10: puts a lamp out, returns whether it was lit");
        LampLighters x = Books.street(BOOK);
        Check.same("of one not lit", x.douseLamp(A), false);
        Check.same("isLit of it", x.isLit(A), false);
        x.lightLamp(A);
        x.lightLamp(B);
        Check.same("of a lit one", x.douseLamp(A), true);
        Check.same("isLit then", x.isLit(A), false);
        Check.same("isLit of another", x.isLit(B), true);
        Check.same("once more", x.douseLamp(A), false);
        Check.same("litLamps", x.litLamps(), 1);
        Check.same("it is dark then", x.passQuarters(1), 2);
    }

    private static void fill() {
        Check.about("Promise 11: fills oil into a lamp, returns how much it has then");
        LampLighters x = Books.street(BOOK);
        x.lightLamp(B);
        x.passQuarters(20);
        Check.same("oil ahead of it", x.oilOf(B), 20);
        Check.same("fillLamp 3", x.fillLamp(B, 3), 23);
        Check.same("oilOf", x.oilOf(B), 23);
        Check.same("no other is filled", x.oilOf(A), 2);
    }

    private static void fillTheLeastAndTheMost() {
        Check.about("Promise 11: oil is 1 to 30");
        LampLighters x = Books.street("lamp a at 0 holds 30;");
        x.lightLamp(0);
        x.passNights(1);
        x.trimLamp(0);
        x.lightLamp(0);
        x.passQuarters(20);
        Check.same("no oil", x.oilOf(0), 0);
        Check.same("fillLamp 1", x.fillLamp(0, 1), 1);
        x.lightLamp(0);
        x.passQuarters(2);
        Check.same("no oil once more", x.oilOf(0), 0);
        Check.same("fillLamp 30", x.fillLamp(0, 30), 30);
    }

    private static void fillTooMuch() {
        Check.about("Promise 11: IllegalArgumentException if oil is not 1 to 30; no such lamp is named first");
        LampLighters x = Books.street(BOOK);
        for (int oil : new int[] {0, -1, 31, 32, Integer.MAX_VALUE, Integer.MIN_VALUE}) {
            Check.refuses("fillLamp of " + oil, x, ARGUMENT, () -> x.fillLamp(A, oil));
            Check.refuses("fillLamp of no lamp and " + oil, x, INDEX, () -> x.fillLamp(3, oil));
            Check.refuses("fillLamp of the lamp -1 and " + oil, x, INDEX, () -> x.fillLamp(-1, oil));
        }
    }

    private static void fillLosesWhatHasNoRoom() {
        Check.about("Promise 11: what it has no room for is lost");
        LampLighters x = Books.street(BOOK);
        Check.same("of a full one", x.fillLamp(B, 1), 30);
        Check.same("of a small full one", x.fillLamp(C, 30), 1);
        x.lightLamp(B);
        x.passQuarters(8);
        Check.same("oil ahead of it", x.oilOf(B), 26);
        Check.same("as much as there is room for", x.fillLamp(B, 4), 30);
        x.passQuarters(2);
        Check.same("1 more than there is room for", x.fillLamp(B, 2), 30);
        x.passQuarters(2);
        Check.same("nothing of it comes back", x.oilOf(B), 29);
        Check.same("far more", x.fillLamp(B, 30), 30);
    }

    private static void fillAlone() {
        Check.about("Promise 11: fills no can, trims no wick, lights nothing, and burns nothing");
        LampLighters x = Books.street(BOOK, 9);
        x.lightLamp(B);
        x.passQuarters(20);
        x.douseLamp(B);
        x.fillLamp(B, 5);
        Check.same("isLit", x.isLit(B), false);
        Check.same("wickOf", x.wickOf(B), 5);
        Check.same("oilBurnt", x.oilBurnt(), 10);
        Check.same("canOf", x.canOf(0), 9);
    }

    private static void trim() {
        Check.about("Promise 12: its wick is 10, returns its wick before");
        LampLighters x = Books.street(BOOK);
        Check.same("of a whole wick", x.trimLamp(B), 10);
        Check.same("wickOf then", x.wickOf(B), 10);
        x.lightLamp(B);
        x.passQuarters(12);
        Check.same("of a wick of 7", x.trimLamp(B), 7);
        Check.same("wickOf", x.wickOf(B), 10);
        Check.same("it is lit still", x.isLit(B), true);
        Check.same("oilOf", x.oilOf(B), 24);
    }

    private static void trimNoWick() {
        Check.about("Promise 12: of a wick of 0, returns 0");
        LampLighters x = noWick();
        Check.same("trimLamp", x.trimLamp(B), 0);
        Check.same("wickOf", x.wickOf(B), 10);
        Check.same("trimLamp once more", x.trimLamp(B), 10);
    }

    private static void burnOil() {
        Check.about("Terms, a quarter: if the clock is even, it has 1 oil less");
        LampLighters x = Books.street(BOOK);
        x.lightLamp(B);
        for (int clock = 1; clock <= 39; clock++) {
            x.passQuarters(1);
            Check.same("oil behind " + clock, x.oilOf(B), 30 - clock / 2);
            Check.same("oilBurnt behind " + clock, x.oilBurnt(), clock / 2);
            Check.same("isLit behind " + clock, x.isLit(B), true);
        }
        Check.same("no other burns", x.oilOf(A), 2);
    }

    private static void burnTheLastOil() {
        Check.about("Terms, a quarter: with no oil left it is not lit any more");
        LampLighters x = Books.street(BOOK);
        x.lightLamp(A);
        x.passQuarters(3);
        Check.same("oil behind 3", x.oilOf(A), 1);
        Check.same("isLit behind 3", x.isLit(A), true);
        x.passQuarters(1);
        Check.same("oil behind 4", x.oilOf(A), 0);
        Check.same("isLit behind 4", x.isLit(A), false);
        x.passQuarters(5);
        Check.same("no less than none", x.oilOf(A), 0);
        Check.same("oilBurnt", x.oilBurnt(), 2);
    }

    private static void burnTheWick() {
        Check.about("Terms, a quarter: if the clock divides by 4, its wick is 1 less");
        LampLighters x = Books.street(BOOK);
        x.lightLamp(B);
        for (int clock = 1; clock <= 39; clock++) {
            x.passQuarters(1);
            Check.same("wick behind " + clock, x.wickOf(B), 10 - clock / 4);
        }
        Check.same("of no other", x.wickOf(A), 10);
    }

    private static void burnTheLastOfTheWick() {
        Check.about("Terms, a quarter: with no wick left it is not lit any more");
        LampLighters x = Books.street(BOOK);
        x.lightLamp(B);
        x.passQuarters(30);
        x.passQuarters(10);
        Check.same("wick behind 40", x.wickOf(B), 0);
        // within a night, so that it isn't dawn that puts it out
        LampLighters y = Books.street(BOOK);
        y.lightLamp(B);
        y.passQuarters(20);
        y.douseLamp(B);
        y.passQuarters(20);
        y.lightLamp(B);
        y.passQuarters(19);
        Check.same("wick behind 39", y.wickOf(B), 1);
        Check.same("isLit behind 39", y.isLit(B), true);
        y.passQuarters(1);
        Check.same("wick behind 40", y.wickOf(B), 0);
        Check.same("oil behind 40", y.oilOf(B), 10);
        Check.same("isLit behind 40", y.isLit(B), false);
        Check.same("it is dark then", y.passQuarters(1), 3);
        Check.same("no less than none", y.wickOf(B), 0);
    }

    private static void clockStands() {
        Check.about("Terms, a quarter: the clock of a lamp that isn't lit stands");
        LampLighters x = Books.street(BOOK);
        x.lightLamp(B);
        x.passQuarters(3);
        x.douseLamp(B);
        x.passQuarters(7);
        Check.same("wick ahead", x.wickOf(B), 10);
        Check.same("oil ahead", x.oilOf(B), 29);
        x.lightLamp(B);
        x.passQuarters(1);
        Check.same("wick behind 4", x.wickOf(B), 9);
        Check.same("oil behind 4", x.oilOf(B), 28);
    }

    private static void clockIsNotSetBack() {
        Check.about("Terms, lamps: nothing but teach sets the clock back, not what is done by hand or by lighters");
        LampLighters x = Books.begun("lamp b at 0 holds 30;round r(light;douse;trim;fill 9;light;douse;)", 0, 9);
        x.passQuarters(1);
        x.fillLamp(0, 9);
        x.trimLamp(0);
        x.passQuarters(4);
        Check.same("not lit", x.isLit(0), false);
        x.passQuarters(1);
        Check.same("oil behind the clock's 2", x.oilOf(0), 29);
        x.passQuarters(1);
        x.lightLamp(0);
        x.lightLamp(0);
        x.passQuarters(1);
        Check.same("oil behind the clock's 3", x.oilOf(0), 29);
        x.douseLamp(0);
        x.trimLamp(0);
        x.lightLamp(0);
        Check.same("fillLamp", x.fillLamp(0, 1), 30);
        x.passQuarters(1);
        Check.same("oil behind the clock's 4", x.oilOf(0), 29);
        Check.same("wick behind the clock's 4", x.wickOf(0), 9);
    }

    private static void clockOfDawn() {
        Check.about("Terms, lamps: dawn doesn't set the clock back");
        LampLighters x = Books.street("lamp b at 0 holds 30;");
        x.passQuarters(37);
        x.lightLamp(0);
        x.passQuarters(3);
        Check.same("oil behind the clock's 3", x.oilOf(0), 29);
        x.lightLamp(0);
        x.passQuarters(1);
        Check.same("oil behind the clock's 4", x.oilOf(0), 28);
        Check.same("wick behind the clock's 4", x.wickOf(0), 9);
    }

    private static void dark() {
        Check.about("Promise 23, and Terms, a quarter: a lamp that is not lit is dark for a quarter more");
        LampLighters x = Books.street(BOOK);
        x.lightLamp(B);
        Check.same("dark quarters", x.passQuarters(3), 6);
        Check.same("darkOf of one not lit", x.darkOf(A), 3);
        Check.same("darkOf of a lit one", x.darkOf(B), 0);
        x.douseLamp(B);
        x.passQuarters(1);
        Check.same("darkOf of one that was put out", x.darkOf(B), 1);
        x.setClouds(true);
        x.passNights(5);
        Check.same("darkOf in all", x.darkOf(A), 204);
    }

    private static void darkAsItGoesOut() {
        Check.about("Promise 23, and Terms, a quarter: in the quarter in which it goes out a lamp isn't dark");
        LampLighters x = Books.street(BOOK);
        x.lightLamp(C);
        Check.same("the first quarter", x.passQuarters(1), 2);
        Check.same("the quarter of its last oil", x.passQuarters(1), 2);
        Check.same("isLit", x.isLit(C), false);
        Check.same("darkOf", x.darkOf(C), 0);
        Check.same("the next quarter", x.passQuarters(1), 3);
        Check.same("darkOf then", x.darkOf(C), 1);
        LampLighters y = Books.street(BOOK);
        y.lightLamp(B);
        y.passQuarters(40);
        Check.same("nor in the quarter of dawn", y.darkOf(B), 0);
    }

    private static void litLamps() {
        Check.about("Promise 24: none, some, and all lamps");
        Check.same("of a new object", new LampLighters().litLamps(), 0);
        LampLighters x = Books.street(Books.lamps(10));
        Check.same("none", x.litLamps(), 0);
        x.lightLamp(9);
        Check.same("the last one", x.litLamps(), 1);
        for (int i = 0; i < 10; i++) {
            x.lightLamp(i);
        }
        Check.same("all", x.litLamps(), 10);
        x.passQuarters(2);
        Check.same("but the one of 1 oil", x.litLamps(), 9);
        x.passQuarters(38);
        Check.same("at dawn", x.litLamps(), 0);
    }

    private static void oilBurnt() {
        Check.about("Promise 25: none at first, then that of all lamps, and what was filled in is none");
        Check.same("of a new object", new LampLighters().oilBurnt(), 0);
        LampLighters x = Books.street(BOOK);
        Check.same("at first", x.oilBurnt(), 0);
        x.lightLamp(A);
        x.lightLamp(B);
        x.lightLamp(C);
        x.passQuarters(1);
        Check.same("behind 1", x.oilBurnt(), 0);
        x.passQuarters(1);
        Check.same("behind 2", x.oilBurnt(), 3);
        x.fillLamp(A, 1);
        Check.same("filling burns nothing", x.oilBurnt(), 3);
        x.passQuarters(38);
        Check.same("behind a night", x.oilBurnt(), 3 + 20 + 1);
        x.passNights(5);
        Check.same("it is kept", x.oilBurnt(), 24);
    }
}
