/** Promises 4, 5 and 15 to 17: what teach does to a street, its error, and what the book has. */
public final class TeachTest {
    private static final String BOOK = "lamp a at 0 holds 9;lamp b at 3 holds 29;"
        + "round r(note 5;light;fill 3;go b;light;wait 20;note 7;)round s(do 9(douse;light;go a;))";

    private TeachTest() {
    }

    public static void main(String[] args) {
        returnsTheError();
        emptiesTheTape();
        keepsAllWithAnError();
        keepsAfterManyErrors();
        takesThePlaceOfTheBookBefore();
        smallerBooks();
        emptyBook();
        beginsAnew();
        clocksBeginAnew();
        skyIsClear();
        lightersAsHired();
        sameBookTwice();
        errorAtFirst();
        errorAtOfTheLatest();
        errorAtStays();
        counts();
        countsOfNothing();
        countsOfTheMost();
        Check.end();
    }

    private static void returnsTheError() {
        Check.about("Promise 4: returns 0, or the error, 1 to 5");
        Books.right("", 0, 0, 0);
        Books.right(BOOK, 2, 2, 11);
        Books.error("x", 1, 0);
        Books.error("round r()round r()", 2, 15);
        Books.error("round r(walk r;)", 3, 13);
        Books.error(Books.lamps(10) + "lamp k at 0 holds 1;", 4, Books.lamps(10).length() + 5);
        Books.error("lamp a at 30 holds 1;", 5, 10);
    }

    private static void emptiesTheTape() {
        Check.about("Promise 4: the tape is empty behind teach, with an error or without");
        for (String text : new String[] {"", BOOK, "x", "round r()round r()", "round r(walk r;)", "lamp a at 30 holds 1;"}) {
            LampLighters x = new LampLighters();
            Books.teach(x, text);
            Check.refuses("trim behind " + text, x, IllegalArgumentException.class, () -> x.trim(1));
            Check.same("trim(0) behind " + text, x.trim(0), 0);
            Check.same("feed behind " + text, x.feed(0x20202020, 0x20202020, 0x20202020, 0x20202020, 0x20202020), 20);
            Check.same("teach of blanks behind " + text, x.teach(), 0);
        }
    }

    /** A street amid a night, with clouds, notes, an act that is begun, lamps that burn, and an error 1 at 0. */
    private static LampLighters amid() {
        LampLighters x = Books.begun(BOOK, 0, 9, 12);
        x.assign(1, 1);
        x.setClouds(true);
        x.passNights(1);
        x.passQuarters(9);
        Check.same("teach of x", Books.teach(x, "x"), 1);
        return x;
    }

    private static void keepsAllWithAnError() {
        Check.about("Promise 4: if it has an error, all stays");
        String[] wrong = {"lamp c at 5 holds 5;x", "lamp c at 5 holds 5;lamp c at 5 holds 5;", "round z(walk z;)",
            Books.lamps(11), "lamp c at 5 holds 50;", "lamp", BOOK + BOOK, "lamp a at 0 holds 9;round r(light;light;go c;)"};
        int[] errors = {1, 2, 3, 4, 5, 1, 1, 3};
        for (int i = 0; i < wrong.length; i++) {
            LampLighters x = amid();
            Check.same("teach of " + wrong[i], Books.teach(x, wrong[i]), errors[i]);
            Twins.sameFromNowOn("a failed teach of " + wrong[i], x, amid());
        }
    }

    private static void keepsAfterManyErrors() {
        Check.about("Promise 4: all stays also if it has an error time and again, and is right at last");
        LampLighters x = amid();
        for (int n = 0; n < 5; n++) {
            Check.same("teach " + n, Books.teach(x, "lamp c at 5 holds 5;round z(douse;do 3(wait 1;go c;))round z()"), 2);
        }
        Twins.sameFromNowOn("five failed teaches", x, amid());
        Check.same("a right one", Books.teach(x, BOOK), 0);
        Check.same("its digest", x.digest(), Books.street(BOOK, 9, 12).digest());
    }

    private static void takesThePlaceOfTheBookBefore() {
        Check.about("Promise 4: the book takes the place of the one before");
        LampLighters x = Books.street(BOOK, 9);
        Check.same("teach", Books.teach(x, "lamp z at 7 holds 30;round y(note 1;)"), 0);
        Check.same("lamps", x.lamps(), 1);
        Check.same("rounds", x.rounds(), 1);
        Check.same("acts", x.acts(), 1);
        Check.same("postOf", x.postOf(0), 7);
        Check.same("roomOf", x.roomOf(0), 30);
        Check.refuses("a lamp of the book before", x, IndexOutOfBoundsException.class, () -> x.isLit(1));
        Check.refuses("a round of the book before", x, IndexOutOfBoundsException.class, () -> x.assign(0, 1));
        x.assign(0, 0);
        x.passQuarters(1);
        Check.same("the note", x.noteOf(0, 0), 1);
        Books.error("round r(go a;)", 3, 11);
        Check.same("names of the book before are none", Books.teach(x, "round r(go z;)"), 3);
    }

    private static void smallerBooks() {
        Check.about("Promise 4: of a book with more lamps, rounds and acts than the next one nothing is left");
        String large = Books.lamps(10) + "round p(fill 9;do 9(go j;light;))round q(light;if 1=2(light;)else(go b;))"
            + "round r(light;trim;)round s(light;)round t(light;)round u(light;note 5;)";
        String[] small = {"lamp a at 0 holds 9;round r()", "lamp a at 0 holds 9;round r(trim;if 1=2(trim;)do 1()wait 0;)",
            "lamp a at 0 holds 9;round r()round s(walk r;note 3;)", ""};
        for (String text : small) {
            LampLighters x = Books.street(large, 9, 12);
            // a second time, as the books may stand in two places
            Check.same("teach of the large one", Books.teach(x, large), 0);
            for (int i = 0; i < 10; i++) {
                x.lightLamp(i);
            }
            x.assign(0, 0);
            x.assign(1, 5);
            x.passQuarters(1);
            Check.same("litLamps of the large one", x.litLamps(), 10);
            Check.same("teach of " + text, Books.teach(x, text), 0);
            LampLighters fresh = Books.street(text, 9, 12);
            Check.same("litLamps", x.litLamps(), 0);
            Check.same("meanOil", x.meanOil(), fresh.meanOil());
            for (int round = 0; round < fresh.rounds(); round++) {
                x.assign(0, round);
                fresh.assign(0, round);
                x.passQuarters(3);
                fresh.passQuarters(3);
                Check.same("bestRound", x.bestRound(1, 9), fresh.bestRound(1, 9));
                Check.same("digest", x.digest(), fresh.digest());
            }
            Twins.sameFromNowOn("teach of " + text, x, fresh);
        }
    }

    private static void emptyBook() {
        Check.about("Promise 4: an empty book takes the place of the one before, too");
        LampLighters x = amid();
        Check.same("teach", x.teach(), 0);
        Check.same("lamps", x.lamps(), 0);
        Check.same("rounds", x.rounds(), 0);
        Check.same("acts", x.acts(), 0);
        Check.same("lighters stay", x.lighters(), 2);
        Check.same("night", x.night(), 0);
        Check.same("nobody works", x.passNights(1), 0);
        Check.same("notesOf", x.notesOf(0), 0);
    }

    private static void beginsAnew() {
        Check.about("Promise 4: lamps are as at first, nights, what was dark and burnt begin anew");
        LampLighters x = amid();
        Check.same("night ahead of teach", x.night(), 1);
        Check.same("quarter ahead of teach", x.quarter(), 9);
        Check.same("oilBurnt ahead of teach", x.oilBurnt() > 0, true);
        Check.same("litLamps ahead of teach", x.litLamps() > 0, true);
        Check.same("darkOf ahead of teach", x.darkOf(1) > 0, true);
        Check.same("teach", Books.teach(x, BOOK), 0);
        Check.same("night", x.night(), 0);
        Check.same("quarter", x.quarter(), 0);
        Check.same("oilBurnt", x.oilBurnt(), 0);
        Check.same("litLamps", x.litLamps(), 0);
        int[] rooms = {9, 29};
        for (int lamp = 0; lamp < 2; lamp++) {
            Check.same("darkOf", x.darkOf(lamp), 0);
            Check.same("oilOf", x.oilOf(lamp), rooms[lamp]);
            Check.same("wickOf", x.wickOf(lamp), 10);
            Check.same("isLit", x.isLit(lamp), false);
        }
    }

    private static void clocksBeginAnew() {
        Check.about("Promise 4, and Terms, lamps and nights: teach sets clocks back");
        LampLighters x = Books.street("lamp a at 0 holds 9;");
        x.lightLamp(0);
        x.passQuarters(3);
        Books.teach(x, "lamp a at 0 holds 9;");
        x.lightLamp(0);
        x.passQuarters(1);
        Check.same("oil behind 1", x.oilOf(0), 9);
        Check.same("wick behind 1", x.wickOf(0), 10);
        x.passQuarters(1);
        Check.same("oil behind 2", x.oilOf(0), 8);
        x.passQuarters(2);
        Check.same("wick behind 4", x.wickOf(0), 9);
    }

    private static void skyIsClear() {
        Check.about("Promise 4: the sky is clear behind teach, and as it was if that has an error");
        LampLighters x = new LampLighters();
        x.setClouds(true);
        Check.same("teach of x", Books.teach(x, "x"), 1);
        Check.same("clouds behind an error", x.setClouds(true), true);
        Check.same("teach", x.teach(), 0);
        Check.same("clouds behind teach", x.setClouds(true), false);
    }

    private static void lightersAsHired() {
        Check.about("Promise 4: lighters are as they were hired, without a round and notes");
        LampLighters x = amid();
        x.hire(60);
        Check.same("placeOf ahead of teach", x.placeOf(0), 3);
        Check.same("canOf ahead of teach", x.canOf(0) < 9, true);
        Check.same("busyOf ahead of teach", x.busyOf(0) > 0, true);
        Check.same("notesOf ahead of teach", x.notesOf(0) > 0, true);
        Check.same("teach", Books.teach(x, BOOK), 0);
        Check.same("lighters", x.lighters(), 3);
        int[] cans = {9, 12, 60};
        for (int i = 0; i < 3; i++) {
            int lighter = i;
            Check.same("canOf", x.canOf(i), cans[i]);
            Check.same("placeOf", x.placeOf(i), 0);
            Check.same("hasRound", x.hasRound(i), false);
            Check.same("isDone", x.isDone(i), true);
            Check.same("busyOf", x.busyOf(i), 0);
            Check.same("notesOf", x.notesOf(i), 0);
            Check.refuses("noteOf", x, IndexOutOfBoundsException.class, () -> x.noteOf(lighter, 0));
            Check.refuses("roundOf", x, IllegalStateException.class, () -> x.roundOf(lighter));
        }
        Check.same("all dark", x.passNights(1), 80);
        Check.same("no round at dawn", x.hasRound(0), false);
    }

    private static void sameBookTwice() {
        Check.about("Promise 4: a book taught once more is as a new one");
        LampLighters x = amid();
        Check.same("teach", Books.teach(x, BOOK), 0);
        LampLighters fresh = Books.street(BOOK, 9, 12);
        x.assign(0, 0);
        fresh.assign(0, 0);
        x.assign(1, 1);
        fresh.assign(1, 1);
        Twins.sameFromNowOn("teach of the same book", x, fresh);
    }

    private static void errorAtFirst() {
        Check.about("Promise 5: -1 if there was no teach, or the latest one had no error");
        LampLighters x = new LampLighters();
        Check.same("without a teach", x.errorAt(), -1);
        Books.feed(x, "x");
        Check.same("with a wrong tape alone", x.errorAt(), -1);
        x.trim(0);
        x.teach();
        Check.same("behind a right one", x.errorAt(), -1);
    }

    private static void errorAtOfTheLatest() {
        Check.about("Promise 5: the position of the error of the latest teach");
        LampLighters x = new LampLighters();
        Books.teach(x, "lamp a at 30 holds 1;");
        Check.same("the first one", x.errorAt(), 10);
        Books.teach(x, "round r()round r()");
        Check.same("another one", x.errorAt(), 15);
        Books.teach(x, "x");
        Check.same("one at 0", x.errorAt(), 0);
        Books.teach(x, "round r()");
        Check.same("a right one", x.errorAt(), -1);
        Books.teach(x, " ".repeat(1600 - 4) + "lamp");
        Check.same("one at the end of a full tape", x.errorAt(), 1600);
    }

    private static void errorAtStays() {
        Check.about("Promise 5: nothing but teach changes the position of the error");
        LampLighters x = Books.street(BOOK, 9);
        Books.teach(x, "lamp a at 30 holds 1;");
        Books.feed(x, "round r()");
        x.trim(0);
        x.hire(1);
        x.assign(0, 0);
        x.passNights(5);
        x.lightLamp(0);
        x.darkAfter(80);
        x.bestRound(0, 40);
        Check.same("errorAt", x.errorAt(), 10);
    }

    private static void counts() {
        Check.about("Promises 15 to 17: lamps, rounds and acts, those in blocks of others as well");
        Books.right("lamp a at 0 holds 1;round r(light;)", 1, 1, 1);
        Books.right("round r(do 2(do 2(do 2(light;note 1;)douse;)))round s(walk r;)", 0, 2, 7);
        Books.right("round r(if 1=1(light;trim;)else(douse;if 1=1()else(wait 1;)))", 0, 1, 6);
    }

    private static void countsOfNothing() {
        Check.about("Promises 15 to 17: of a new object, and of an empty book, 0");
        LampLighters x = new LampLighters();
        Check.same("lamps", x.lamps(), 0);
        Check.same("rounds", x.rounds(), 0);
        Check.same("acts", x.acts(), 0);
        Books.right("", 0, 0, 0);
    }

    private static void countsOfTheMost() {
        Check.about("Promises 15 to 17: of a full book, 10, 6 and 80");
        String rounds = "round p()round q()round r()round s()round t()round u(" + "trim;".repeat(80) + ")";
        Books.right(Books.lamps(10) + rounds, 10, 6, 80);
    }
}
