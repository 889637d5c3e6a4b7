/** The promises 1 to 44 one behind the other: of each what it answers, its edges, and what it refuses. */
public final class PromisesTest {
    private static final Class<IndexOutOfBoundsException> INDEX = IndexOutOfBoundsException.class;
    private static final Class<IllegalArgumentException> ARGUMENT = IllegalArgumentException.class;
    private static final Class<IllegalStateException> STATE = IllegalStateException.class;
    private static final int BLANKS = 0x20202020;

    /** In the round 0 lamp a is lit in the quarter 2 and lamp b in the quarter 5; a burns for ten quarters. */
    private static final String BOOK = "lamp a at 2 holds 5;\nlamp b at 4 holds 30;\n"
        + "round east(go a;light;go b;light;)\nround stay(note can;trim;)\nround none()";
    private static final int EAST = 0;
    private static final int STAY = 1;
    private static final int NONE = 2;

    private PromisesTest() {
    }

    public static void main(String[] args) {
        newObject();
        book();
        town();
        byHand();
        time();
        counts();
        lampsAsTheyStand();
        allLamps();
        nights();
        lightersAsTheyStand();
        rounds();
        notes();
        whatWouldBe();
        bestRound();
        sums();
        Check.end();
    }

    private static LampLighters eastward() {
        return Books.begun(BOOK, EAST, 10);
    }

    private static void newObject() {
        Check.about("Promise 1: a new object");
        LampLighters x = new LampLighters();
        Check.same("lamps", x.lamps(), 0);
        Check.same("rounds", x.rounds(), 0);
        Check.same("lighters", x.lighters(), 0);
        Check.same("night", x.night(), 0);
        Check.same("quarter", x.quarter(), 0);
    }

    private static void book() {
        LampLighters x = new LampLighters();
        Check.about("Promise 2: feed");
        Check.same("twenty bytes", x.feed(0x726f756e, 0x64207228, 0x6c696768, 0x743b2920, BLANKS), 20);
        Check.same("twenty more", x.feed(BLANKS, BLANKS, BLANKS, BLANKS, 0x2020207e), 40);
        Check.about("Promise 3: trim");
        Check.same("all but the last byte", x.trim(39), 39);
        Check.refuses("one too many", x, ARGUMENT, () -> x.trim(40));
        Check.refuses("less than none", x, ARGUMENT, () -> x.trim(-1));
        Check.same("none of none", new LampLighters().trim(0), 0);
        Check.about("Promise 4: teach");
        Check.same("a book", x.teach(), 0);
        Check.same("its round", x.rounds(), 1);
        Check.same("an error", Books.teach(x, "lamp a at 2 holds 31;"), 5);
        Check.same("the book before stays", x.rounds(), 1);
        Check.about("Promise 5: errorAt");
        Check.same("of the error", x.errorAt(), 18);
        Check.same("an empty book", x.teach(), 0);
        Check.same("of no error", x.errorAt(), -1);
        Check.same("of no teach", new LampLighters().errorAt(), -1);
        Check.about("Promise 2: feed");
        for (int bytes = 20; bytes <= 1600; bytes += 20) {
            Check.same("feed", x.feed(BLANKS, BLANKS, BLANKS, BLANKS, BLANKS), bytes);
        }
        Check.refuses("beyond 1600", x, STATE, () -> x.feed(0, 0, 0, 0, 0));
    }

    private static void town() {
        LampLighters x = Books.street(BOOK);
        Check.about("Promise 6: hire");
        Check.refuses("a can for 0", x, ARGUMENT, () -> x.hire(0));
        Check.refuses("a can for 61", x, ARGUMENT, () -> x.hire(61));
        Check.same("the first", x.hire(1), 0);
        Check.same("the second", x.hire(60), 1);
        Check.same("the third", x.hire(7), 2);
        Check.refuses("a fourth", x, STATE, () -> x.hire(7));
        Check.refuses("a fourth, for 0", x, ARGUMENT, () -> x.hire(0));
        Check.about("Promise 7: assign");
        Check.same("none before", x.assign(2, STAY), -1);
        Check.same("one before", x.assign(2, EAST), STAY);
        Check.same("the same one", x.assign(2, EAST), EAST);
        Check.refuses("no such lighter", x, INDEX, () -> x.assign(3, EAST));
        Check.refuses("no lighter -1", x, INDEX, () -> x.assign(-1, EAST));
        Check.refuses("no such round", x, INDEX, () -> x.assign(0, 3));
        Check.refuses("no round -1", x, INDEX, () -> x.assign(0, -1));
        Check.about("Promise 8: setClouds");
        Check.same("clear at first", x.setClouds(false), false);
        Check.same("clear still", x.setClouds(true), false);
        Check.same("cloudy", x.setClouds(true), true);
        Check.same("cloudy still", x.setClouds(false), true);
    }

    private static void byHand() {
        LampLighters x = Books.street(BOOK);
        Check.about("Promise 9: lightLamp");
        Check.same("lit", x.lightLamp(0), true);
        Check.refuses("no such lamp", x, INDEX, () -> x.lightLamp(2));
        Check.about("Promise 10: douseLamp");
        Check.same("was lit", x.douseLamp(0), true);
        Check.same("was not lit", x.douseLamp(0), false);
        Check.refuses("no such lamp", x, INDEX, () -> x.douseLamp(2));
        x.lightLamp(0);
        x.passQuarters(10);
        Check.about("Promise 9: lightLamp");
        Check.same("without oil", x.lightLamp(0), false);
        Check.about("Promise 11: fillLamp");
        Check.same("some", x.fillLamp(0, 1), 1);
        Check.same("to the last", x.fillLamp(0, 4), 5);
        Check.same("more than there is room for", x.fillLamp(0, 30), 5);
        Check.refuses("none", x, ARGUMENT, () -> x.fillLamp(0, 0));
        Check.refuses("31", x, ARGUMENT, () -> x.fillLamp(0, 31));
        Check.refuses("no such lamp, and none", x, INDEX, () -> x.fillLamp(2, 0));
        Check.about("Promise 12: trimLamp");
        Check.same("the wick before", x.trimLamp(0), 8);
        Check.same("the wick then", x.trimLamp(0), 10);
        Check.refuses("no such lamp", x, INDEX, () -> x.trimLamp(-1));
    }

    private static void time() {
        LampLighters x = eastward();
        Check.about("Promise 13: passQuarters");
        Check.same("1", x.passQuarters(1), 2);
        Check.same("5", x.passQuarters(5), 5);
        Check.same("34, to dawn", x.passQuarters(34), 28);
        Check.same("40 of the next night", x.passQuarters(40), 40 + 35);
        Check.refuses("none", x, ARGUMENT, () -> x.passQuarters(0));
        Check.refuses("41", x, ARGUMENT, () -> x.passQuarters(41));
        LampLighters y = eastward();
        Check.about("Promise 14: passNights");
        Check.same("1", y.passNights(1), 35);
        Check.same("another one, in which a has no oil and b has a wick of 2", y.passNights(1), 40 + 35);
        Check.same("5", y.passNights(5), 400);
        Check.refuses("none", y, ARGUMENT, () -> y.passNights(0));
        Check.refuses("6", y, ARGUMENT, () -> y.passNights(6));
    }

    private static void counts() {
        LampLighters none = new LampLighters();
        LampLighters x = Books.street(BOOK);
        LampLighters inner = Books.street("round r(if 1=1(do 2(light;))else(trim;note 1;))");
        Check.about("Promise 15: lamps");
        Check.same("of a new object", none.lamps(), 0);
        Check.same("of a book", x.lamps(), 2);
        Check.same("of a book without any", inner.lamps(), 0);
        Check.about("Promise 16: rounds");
        Check.same("of a new object", none.rounds(), 0);
        Check.same("of a book", x.rounds(), 3);
        Check.same("of another book", inner.rounds(), 1);
        Check.about("Promise 17: acts");
        Check.same("of a new object", none.acts(), 0);
        Check.same("of a book", x.acts(), 6);
        Check.same("in blocks of others as well", inner.acts(), 5);
    }

    private static void lampsAsTheyStand() {
        LampLighters x = eastward();
        LampLighters later = eastward();
        later.passQuarters(12);
        Check.about("Promise 18: postOf");
        lamps("postOf", x.postOf(0), x.postOf(1), 2, 4);
        Check.refuses("postOf 2", x, INDEX, () -> x.postOf(2));
        Check.refuses("postOf -1", x, INDEX, () -> x.postOf(-1));
        Check.about("Promise 19: roomOf");
        lamps("roomOf", x.roomOf(0), x.roomOf(1), 5, 30);
        lamps("roomOf later", later.roomOf(0), later.roomOf(1), 5, 30);
        Check.refuses("roomOf 2", x, INDEX, () -> x.roomOf(2));
        Check.refuses("roomOf -1", x, INDEX, () -> x.roomOf(-1));
        Check.about("Promise 20: oilOf");
        lamps("oilOf", x.oilOf(0), x.oilOf(1), 5, 30);
        lamps("oilOf later", later.oilOf(0), later.oilOf(1), 0, 27);
        Check.refuses("oilOf 2", x, INDEX, () -> x.oilOf(2));
        Check.refuses("oilOf -1", x, INDEX, () -> x.oilOf(-1));
        Check.about("Promise 21: wickOf");
        lamps("wickOf", x.wickOf(0), x.wickOf(1), 10, 10);
        lamps("wickOf later", later.wickOf(0), later.wickOf(1), 8, 9);
        Check.refuses("wickOf 2", x, INDEX, () -> x.wickOf(2));
        Check.refuses("wickOf -1", x, INDEX, () -> x.wickOf(-1));
        Check.about("Promise 22: isLit");
        lamps("isLit", x.isLit(0) ? 1 : 0, x.isLit(1) ? 1 : 0, 0, 0);
        lamps("isLit later", later.isLit(0) ? 1 : 0, later.isLit(1) ? 1 : 0, 0, 1);
        Check.refuses("isLit 2", x, INDEX, () -> x.isLit(2));
        Check.refuses("isLit -1", x, INDEX, () -> x.isLit(-1));
        Check.about("Promise 23: darkOf");
        lamps("darkOf", x.darkOf(0), x.darkOf(1), 0, 0);
        lamps("darkOf later", later.darkOf(0), later.darkOf(1), 2, 5);
        later.passQuarters(1);
        lamps("darkOf a quarter later", later.darkOf(0), later.darkOf(1), 3, 5);
        Check.refuses("darkOf 2", x, INDEX, () -> x.darkOf(2));
        Check.refuses("darkOf -1", x, INDEX, () -> x.darkOf(-1));
    }

    private static void lamps(String what, int ofA, int ofB, int dueOfA, int dueOfB) {
        Check.same(what + " a", ofA, dueOfA);
        Check.same(what + " b", ofB, dueOfB);
    }

    private static void allLamps() {
        int[] quarters = {2, 1, 2, 1, 5, 1, 27, 1};
        int[] lit = {0, 1, 1, 2, 2, 1, 1, 0};
        int[] burnt = {0, 0, 1, 2, 4 + 3, 5 + 3, 5 + 17, 5 + 17};
        LampLighters x = eastward();
        for (int i = 0; i < quarters.length; i++) {
            x.passQuarters(quarters[i]);
            Check.about("Promise 24: litLamps");
            Check.same("litLamps " + i, x.litLamps(), lit[i]);
            Check.about("Promise 25: oilBurnt");
            Check.same("oilBurnt " + i, x.oilBurnt(), burnt[i]);
        }
        Check.same("of a new object", new LampLighters().oilBurnt(), 0);
    }

    private static void nights() {
        int[] moon = {0, 1, 2, 3, 4, 5, 6, 7, 8, 9, 10, 11, 12, 13, 14, 14, 13, 12, 11, 10, 9, 8, 7, 6, 5, 4, 3, 2, 1, 0};
        LampLighters x = new LampLighters();
        for (int night = 0; night < 32; night++) {
            Check.about("Promise 26: night");
            Check.same("night", x.night(), night);
            Check.about("Promise 28: moonlight");
            Check.same("moonlight of " + night, x.moonlight(), moon[night % 30]);
            Check.about("Promise 29: isOff");
            Check.same("isOff in " + night, x.isOff(), night >= 11 && night <= 18);
            x.setClouds(true);
            Check.same("isOff in " + night + ", cloudy", x.isOff(), false);
            x.setClouds(false);
            Check.about("Promise 27: quarter");
            Check.same("the first quarter", x.quarter(), 0);
            x.passQuarters(39);
            Check.same("the last quarter", x.quarter(), 39);
            x.passQuarters(1);
        }
    }

    private static void lightersAsTheyStand() {
        Check.about("Promise 30: lighters");
        Check.same("of a new object", new LampLighters().lighters(), 0);
        Check.same("three", Books.street(BOOK, 1, 60, 7).lighters(), 3);
        // The lighter in each quarter of the round 0, and in the two behind it.
        int[] place = {0, 0, 2, 2, 2, 4, 4, 4};
        int[] busy = {0, 1, 0, 0, 1, 0, 0, 0};
        LampLighters x = eastward();
        for (int n = 0; n < 8; n++) {
            Check.about("Promise 31: placeOf");
            Check.same("placeOf behind " + n, x.placeOf(0), place[n]);
            Check.about("Promise 35: isDone");
            Check.same("isDone behind " + n, x.isDone(0), n == 7);
            Check.about("Promise 36: busyOf");
            Check.same("busyOf behind " + n, x.busyOf(0), busy[n]);
            x.passQuarters(1);
        }
        Check.refuses("busyOf 1", x, INDEX, () -> x.busyOf(1));
        Check.refuses("busyOf -1", x, INDEX, () -> x.busyOf(-1));
        Check.about("Promise 31: placeOf");
        Check.refuses("placeOf 1", x, INDEX, () -> x.placeOf(1));
        Check.refuses("placeOf -1", x, INDEX, () -> x.placeOf(-1));
        x.passQuarters(32);
        Check.same("placeOf at dawn", x.placeOf(0), 0);
        Check.about("Promise 35: isDone");
        Check.same("isDone at dawn", x.isDone(0), false);
        Check.refuses("isDone 1", x, INDEX, () -> x.isDone(1));
        Check.refuses("isDone -1", x, INDEX, () -> x.isDone(-1));
        cans();
    }

    private static void cans() {
        Check.about("Promise 32: canOf");
        LampLighters x = Books.begun("lamp a at 0 holds 5;round r(light;wait 3;fill 9;)", 0, 10);
        Check.same("full", x.canOf(0), 10);
        x.passQuarters(5);
        Check.same("behind a fill of 2", x.canOf(0), 8);
        x.passQuarters(35);
        Check.same("at dawn", x.canOf(0), 10);
        Check.refuses("canOf 1", x, INDEX, () -> x.canOf(1));
        Check.refuses("canOf -1", x, INDEX, () -> x.canOf(-1));
    }

    private static void rounds() {
        LampLighters x = Books.street(BOOK, 10);
        Check.about("Promise 33: hasRound");
        Check.same("without one", x.hasRound(0), false);
        Check.refuses("hasRound 1", x, INDEX, () -> x.hasRound(1));
        Check.refuses("hasRound -1", x, INDEX, () -> x.hasRound(-1));
        Check.about("Promise 34: roundOf");
        Check.refuses("without one", x, STATE, () -> x.roundOf(0));
        Check.refuses("roundOf 1", x, INDEX, () -> x.roundOf(1));
        Check.refuses("roundOf -1", x, INDEX, () -> x.roundOf(-1));
        for (int round = EAST; round <= NONE; round++) {
            x.assign(0, round);
            Check.about("Promise 33: hasRound");
            Check.same("with one", x.hasRound(0), true);
            Check.about("Promise 34: roundOf");
            Check.same("roundOf", x.roundOf(0), round);
            Check.about("Promise 35: isDone");
            Check.same("done at once without acts", x.isDone(0), round == NONE);
        }
    }

    private static void notes() {
        LampLighters x = Books.begun("round r(do 25(note hour;wait 1;))", 0, 10);
        Check.about("Promise 37: notesOf");
        Check.same("none", x.notesOf(0), 0);
        x.passQuarters(1);
        Check.same("one", x.notesOf(0), 1);
        Check.about("Promise 38: noteOf");
        Check.same("the only one", x.noteOf(0, 0), 0);
        Check.refuses("of one the second", x, INDEX, () -> x.noteOf(0, 1));
        x.passQuarters(39);
        Check.about("Promise 37: notesOf");
        Check.same("all", x.notesOf(0), 25);
        Check.refuses("notesOf 1", x, INDEX, () -> x.notesOf(1));
        Check.refuses("notesOf -1", x, INDEX, () -> x.notesOf(-1));
        Check.about("Promise 38: noteOf");
        for (int back = 0; back < 20; back++) {
            Check.same("noteOf " + back + " back", x.noteOf(0, back), 24 - back);
        }
        Check.refuses("20 back", x, INDEX, () -> x.noteOf(0, 20));
        Check.refuses("-1 back", x, INDEX, () -> x.noteOf(0, -1));
        Check.refuses("of lighter 1", x, INDEX, () -> x.noteOf(1, 0));
        Check.refuses("of lighter -1", x, INDEX, () -> x.noteOf(-1, 0));
    }

    private static void whatWouldBe() {
        Check.about("Promise 39: quartersUntilLit");
        LampLighters x = eastward();
        long before = x.digest();
        Check.same("of a", x.quartersUntilLit(0), 3);
        Check.same("of b", x.quartersUntilLit(1), 6);
        Check.same("nothing is changed", x.digest(), before);
        Check.refuses("of lamp 2", x, INDEX, () -> x.quartersUntilLit(2));
        Check.refuses("of lamp -1", x, INDEX, () -> x.quartersUntilLit(-1));
        LampLighters late = Books.begun("lamp a at 0 holds 9;round r(if moon=2(light;))", 0, 10);
        Check.same("in the 81st quarter", late.quartersUntilLit(0), -1);
        late.passQuarters(1);
        Check.same("in the 80th quarter", late.quartersUntilLit(0), 80);
        late.lightLamp(0);
        Check.same("lit now", late.quartersUntilLit(0), 0);
        Check.about("Promise 40: darkAfter");
        Check.same("1", x.darkAfter(1), 2);
        Check.same("6", x.darkAfter(6), 7);
        Check.same("40", x.darkAfter(40), 35);
        Check.same("80", x.darkAfter(80), 35 + 75);
        Check.same("nothing is changed", x.digest(), before);
        Check.refuses("none", x, ARGUMENT, () -> x.darkAfter(0));
        Check.refuses("81", x, ARGUMENT, () -> x.darkAfter(81));
        Check.about("Promise 41: nightsUntilOff");
        LampLighters y = new LampLighters();
        for (int night = 0; night < 45; night++) {
            int due = night <= 11 ? 11 - night : night <= 18 ? 0 : night <= 41 ? 41 - night : 0;
            Check.same("nightsUntilOff in " + night, y.nightsUntilOff(), due);
            y.passNights(1);
        }
    }

    private static void bestRound() {
        Check.about("Promise 42: bestRound");
        LampLighters x = Books.street("lamp a at 0 holds 9;lamp b at 1 holds 9;"
            + "round p()round q(wait 4;light;)round r(light;)round s(light;)round t(light;go b;light;)", 10);
        long before = x.digest();
        Check.same("of r, s and t", x.bestRound(0, 1), 2);
        Check.same("of r, s and t still", x.bestRound(0, 2), 2);
        Check.same("t", x.bestRound(0, 3), 4);
        Check.same("t still", x.bestRound(0, 40), 4);
        Check.same("nothing is changed", x.digest(), before);
        Check.refuses("none", x, ARGUMENT, () -> x.bestRound(0, 0));
        Check.refuses("41", x, ARGUMENT, () -> x.bestRound(0, 41));
        Check.refuses("of lighter 1", x, INDEX, () -> x.bestRound(1, 0));
        Check.refuses("of lighter -1", x, INDEX, () -> x.bestRound(-1, 1));
        LampLighters without = Books.street("lamp a at 0 holds 9;", 10);
        Check.refuses("without rounds", without, STATE, () -> without.bestRound(0, 1));
        Check.refuses("none without rounds", without, ARGUMENT, () -> without.bestRound(0, 0));
    }

    private static void sums() {
        Check.about("Promise 43: meanOil");
        LampLighters x = eastward();
        Check.same("of a new object", new LampLighters().meanOil(), 0.0);
        Check.same("of both", x.meanOil(), 17.5);
        Check.about("Promise 44: digest");
        Check.same("of a new object", new LampLighters().digest(), digestOf(0, 0, 0, 0, 0, 0, 0, 0, 0, 0));
        x.hire(60);
        x.passQuarters(12);
        Check.same("amid a night", x.digest(), digestOf(2, 3, 6, 1, 8, 0, 12, 0, 0, 2,
            2, 5, 0, 8, 0, 2, 4, 30, 27, 9, 1, 5, 4, 10, EAST, 1, 0, 0, 0, 60, -1, 1, 0, 0));
        x.assign(1, STAY);
        x.passQuarters(1);
        Check.same("a quarter later", x.digest(), digestOf(2, 3, 6, 1, 9, 0, 13, 0, 0, 2,
            2, 5, 0, 8, 0, 3, 4, 30, 26, 8, 1, 5, 4, 10, EAST, 1, 0, 0, 0, 60, STAY, 0, 1, 1, 60));
        Check.about("Promise 43: meanOil");
        Check.same("then", x.meanOil(), 13.0);
    }

    private static long digestOf(int... numbers) {
        long d = 1901;
        for (int x : numbers) {
            d = d * 31 + x;
        }
        return d;
    }
}
