/** Promises 6 to 8, 30, 33 and 34: hiring, rounds of lighters, clouds. */
public final class TownTest {
    private static final Class<IndexOutOfBoundsException> INDEX = IndexOutOfBoundsException.class;
    private static final Class<IllegalArgumentException> ARGUMENT = IllegalArgumentException.class;
    private static final Class<IllegalStateException> STATE = IllegalStateException.class;
    private static final String BOOK = "lamp a at 4 holds 9;round r(note 1;go a;light;)round s()round t(wait 3;note 3;)";

    private TownTest() {
    }

    public static void main(String[] args) {
        hire();
        hireWrongCan();
        hireTheFourth();
        hireTheFourthWithAWrongCan();
        hireBehindARefusal();
        hiredAtFirst();
        hiredAmidANight();
        lighters();
        assign();
        assignTheFirstAndTheLast();
        assignARoundWithoutActs();
        assignGivesUp();
        assignFromWhereThisOneIs();
        assignTheSame();
        assignNoSuchLighter();
        assignNoSuchRound();
        assignRoundsOfTheBook();
        assignedBeginsAtDawn();
        hasRound();
        roundOf();
        roundOfNone();
        noSuchLighter();
        clouds();
        cloudsStay();
        Check.end();
    }

    private static void hire() {
        Check.about("Promise 6: a can is for 1 to 60 oil; lighters are numbered from 0");
        LampLighters x = new LampLighters();
        Check.same("the smallest can", x.hire(1), 0);
        Check.same("the largest can", x.hire(60), 1);
        Check.same("another can", x.hire(30), 2);
        Check.same("canOf 0", x.canOf(0), 1);
        Check.same("canOf 1", x.canOf(1), 60);
        Check.same("canOf 2", x.canOf(2), 30);
    }

    private static void hireWrongCan() {
        Check.about("Promise 6: IllegalArgumentException if can is not 1 to 60");
        LampLighters x = new LampLighters();
        for (int lighters = 0; lighters < 3; lighters++) {
            for (int can : new int[] {0, -1, 61, 62, Integer.MIN_VALUE, Integer.MAX_VALUE}) {
                Check.refuses("hire of " + can, x, ARGUMENT, () -> x.hire(can));
            }
            Check.same("nobody is hired", x.lighters(), lighters);
            x.hire(9);
        }
    }

    private static void hireTheFourth() {
        Check.about("Promise 6: IllegalStateException if there are 3");
        LampLighters x = Books.street(BOOK, 1, 60, 30);
        for (int can : new int[] {1, 30, 60}) {
            Check.refuses("hire of " + can, x, STATE, () -> x.hire(can));
        }
        Check.same("lighters", x.lighters(), 3);
        x.teach();
        Check.refuses("hire behind teach", x, STATE, () -> x.hire(30));
    }

    private static void hireTheFourthWithAWrongCan() {
        Check.about("Promise 6: a wrong can is named first, also if there are 3");
        LampLighters x = Books.street(BOOK, 1, 60, 30);
        for (int can : new int[] {0, -1, 61, Integer.MIN_VALUE, Integer.MAX_VALUE}) {
            Check.refuses("hire of " + can, x, ARGUMENT, () -> x.hire(can));
        }
    }

    private static void hireBehindARefusal() {
        Check.about("Promise 6: who was refused takes no number");
        LampLighters x = new LampLighters();
        Check.refuses("hire of 0", x, ARGUMENT, () -> x.hire(0));
        Check.same("the first one", x.hire(5), 0);
        Check.refuses("hire of 61", x, ARGUMENT, () -> x.hire(61));
        Check.same("the second one", x.hire(6), 1);
        Check.same("canOf", x.canOf(1), 6);
    }

    private static void hiredAtFirst() {
        Check.about("Terms, lighters: a full can, at the post 0, without a round and notes, at first");
        LampLighters x = new LampLighters();
        x.hire(7);
        Check.same("canOf", x.canOf(0), 7);
        Check.same("placeOf", x.placeOf(0), 0);
        Check.same("hasRound", x.hasRound(0), false);
        Check.same("isDone", x.isDone(0), true);
        Check.same("busyOf", x.busyOf(0), 0);
        Check.same("notesOf", x.notesOf(0), 0);
        x.passNights(1);
        Check.same("isDone behind a night", x.isDone(0), true);
        Check.same("canOf behind a night", x.canOf(0), 7);
    }

    private static void hiredAmidANight() {
        Check.about("Promise 6: one hired amid a night, behind another one who works");
        LampLighters x = Books.begun(BOOK, 0, 9);
        x.passQuarters(2);
        Check.same("hire", x.hire(5), 1);
        Check.same("placeOf", x.placeOf(1), 0);
        Check.same("canOf", x.canOf(1), 5);
        Check.same("hasRound", x.hasRound(1), false);
        Check.same("isDone", x.isDone(1), true);
        Check.same("busyOf", x.busyOf(1), 0);
        Check.same("notesOf", x.notesOf(1), 0);
        Check.same("the first goes on", x.busyOf(0), 2);
        x.passNights(1);
        Check.same("without a round at dawn", x.hasRound(1), false);
        Check.same("isDone without a round at dawn", x.isDone(1), true);
    }

    private static void lighters() {
        Check.about("Promise 30: 0 to 3");
        LampLighters x = new LampLighters();
        for (int n = 0; n < 3; n++) {
            Check.same("lighters", x.lighters(), n);
            x.hire(9);
        }
        Check.same("all lighters", x.lighters(), 3);
        Books.teach(x, BOOK);
        Check.same("behind teach", x.lighters(), 3);
    }

    private static void assign() {
        Check.about("Promise 7: returns the round before, -1 for none");
        LampLighters x = Books.street(BOOK, 9, 9);
        Check.same("none before", x.assign(0, 0), -1);
        Check.same("0 before", x.assign(0, 2), 0);
        Check.same("2 before", x.assign(0, 1), 2);
        Check.same("1 before", x.assign(0, 0), 1);
        Check.same("of the other, none before", x.assign(1, 2), -1);
        Books.teach(x, BOOK);
        Check.same("none before, behind teach", x.assign(0, 1), -1);
    }

    private static void assignTheFirstAndTheLast() {
        Check.about("Promise 7: rounds are numbered from 0 in the order of the book, up to 6 of them");
        LampLighters x = Books.street("round p(note 10;)round q(note 11;)round r(note 12;)round s(note 13;)round t(note 14;)"
            + "round u(note 15;)", 9, 8, 7);
        for (int lighter = 0; lighter < 3; lighter++) {
            for (int round = 0; round < 6; round++) {
                Check.same("assign", x.assign(lighter, round), round - 1);
                Check.same("roundOf", x.roundOf(lighter), round);
                x.passQuarters(1);
                Check.same("its note", x.noteOf(lighter, 0), 10 + round);
            }
        }
    }

    private static void assignARoundWithoutActs() {
        Check.about("Promises 7 and 35: with a round without acts this one is done at once");
        LampLighters x = Books.begun(BOOK, 0, 9);
        x.passQuarters(2);
        x.assign(0, 1);
        Check.same("isDone", x.isDone(0), true);
        Check.same("busyOf", x.busyOf(0), 0);
        Check.same("hasRound", x.hasRound(0), true);
        Check.same("roundOf", x.roundOf(0), 1);
    }

    private static void assignGivesUp() {
        Check.about("Terms, lighters: beginning a round, whatever this one was doing is given up");
        LampLighters x = Books.begun(BOOK, 0, 9);
        x.passQuarters(3);
        Check.same("busyOf on the way", x.busyOf(0), 1);
        x.assign(0, 2);
        Check.same("busyOf", x.busyOf(0), 0);
        Check.same("isDone", x.isDone(0), false);
        Check.same("placeOf", x.placeOf(0), 0);
        Check.same("notes stay", x.notesOf(0), 1);
        x.passQuarters(4);
        Check.same("the new round's note", x.noteOf(0, 0), 3);
        Check.same("nothing of the round before", x.isDone(0), true);
        x.passQuarters(20);
        Check.same("the lamp isn't lit", x.isLit(0), false);
    }

    private static void assignFromWhereThisOneIs() {
        Check.about("Promise 7: begins the round from where this one is");
        LampLighters x = Books.begun(BOOK, 0, 9);
        x.passQuarters(4);
        Check.same("placeOf ahead", x.placeOf(0), 4);
        x.assign(0, 2);
        Check.same("placeOf", x.placeOf(0), 4);
        x.assign(0, 0);
        x.passQuarters(1);
        Check.same("a way of no post takes none", x.isLit(0), true);
    }

    private static void assignTheSame() {
        Check.about("Promise 7: the same round is begun anew");
        LampLighters x = Books.begun(BOOK, 0, 9);
        x.passQuarters(3);
        Check.same("assign", x.assign(0, 0), 0);
        Check.same("busyOf", x.busyOf(0), 0);
        x.passQuarters(1);
        Check.same("notesOf", x.notesOf(0), 2);
        Check.same("busyOf once more", x.busyOf(0), 3);
    }

    private static void assignNoSuchLighter() {
        Check.about("Promise 7: IndexOutOfBoundsException if there is no such lighter");
        LampLighters none = Books.street(BOOK);
        LampLighters one = Books.begun(BOOK, 0, 9);
        LampLighters all = Books.begun(BOOK, 0, 9, 9, 9);
        for (int wrong : new int[] {-1, 3, 4, Integer.MAX_VALUE, Integer.MIN_VALUE}) {
            Check.refuses("of none", none, INDEX, () -> none.assign(wrong, 0));
            Check.refuses("of one", one, INDEX, () -> one.assign(wrong, 0));
            Check.refuses("of three", all, INDEX, () -> all.assign(wrong, 0));
        }
        Check.refuses("0 of none", none, INDEX, () -> none.assign(0, 0));
        Check.refuses("1 of one", one, INDEX, () -> one.assign(1, 0));
        Check.refuses("neither lighter nor round", one, INDEX, () -> one.assign(1, 3));
    }

    private static void assignNoSuchRound() {
        Check.about("Promise 7: IndexOutOfBoundsException if there is no such round");
        LampLighters x = Books.begun(BOOK, 0, 9);
        for (int wrong : new int[] {-1, 3, 5, 6, Integer.MAX_VALUE, Integer.MIN_VALUE}) {
            Check.refuses("round " + wrong, x, INDEX, () -> x.assign(0, wrong));
        }
        Check.same("roundOf", x.roundOf(0), 0);
        LampLighters full = Books.street("round p()round q()round r()round s()round t()round u()", 9);
        Check.refuses("round 6 of 6", full, INDEX, () -> full.assign(0, 6));
        LampLighters none = new LampLighters();
        none.hire(9);
        Check.refuses("round 0 of none", none, INDEX, () -> none.assign(0, 0));
        Check.same("hasRound", none.hasRound(0), false);
    }

    private static void assignRoundsOfTheBook() {
        Check.about("Promise 7: a round of a book with an error, or of the book before, is no such round");
        LampLighters x = Books.street("round r()", 9);
        Books.teach(x, BOOK + "x");
        Check.refuses("a round of a book with an error", x, INDEX, () -> x.assign(0, 1));
        Books.teach(x, BOOK);
        Check.same("a round of the book", x.assign(0, 2), -1);
        Books.teach(x, "round r()");
        Check.refuses("a round of the book before", x, INDEX, () -> x.assign(0, 1));
    }

    private static void assignedBeginsAtDawn() {
        Check.about("Terms, a quarter: the round assigned last is begun at dawn");
        LampLighters x = Books.begun(BOOK, 0, 9);
        x.passQuarters(10);
        x.assign(0, 2);
        x.passQuarters(30);
        Check.same("notes ahead of dawn", x.notesOf(0), 2);
        x.passQuarters(4);
        Check.same("notes behind dawn", x.notesOf(0), 3);
        Check.same("the latest", x.noteOf(0, 0), 3);
    }

    private static void hasRound() {
        Check.about("Promise 33: whether this one has a round, also if it is done");
        LampLighters x = Books.street(BOOK, 9, 9);
        Check.same("none", x.hasRound(0), false);
        x.assign(0, 0);
        Check.same("one", x.hasRound(0), true);
        Check.same("the other", x.hasRound(1), false);
        x.passQuarters(20);
        Check.same("isDone", x.isDone(0), true);
        Check.same("as it is done", x.hasRound(0), true);
        x.passNights(1);
        Check.same("the next night", x.hasRound(0), true);
    }

    private static void roundOf() {
        Check.about("Promise 34: the round, also if it is done");
        LampLighters x = Books.street(BOOK, 9, 9);
        x.assign(1, 2);
        Check.same("roundOf", x.roundOf(1), 2);
        x.passQuarters(20);
        Check.same("as it is done", x.roundOf(1), 2);
        x.assign(1, 0);
        Check.same("another one", x.roundOf(1), 0);
    }

    private static void roundOfNone() {
        Check.about("Promise 34: IllegalStateException if this one has none");
        LampLighters x = Books.street(BOOK, 9, 9);
        Check.refuses("roundOf at first", x, STATE, () -> x.roundOf(0));
        x.assign(0, 0);
        Check.refuses("roundOf another", x, STATE, () -> x.roundOf(1));
        x.passNights(1);
        Check.refuses("roundOf behind dawn", x, STATE, () -> x.roundOf(1));
        Books.teach(x, BOOK);
        Check.refuses("roundOf behind teach", x, STATE, () -> x.roundOf(0));
    }

    private static void noSuchLighter() {
        Check.about("Promises 33 and 34: IndexOutOfBoundsException if there is no such lighter");
        LampLighters none = new LampLighters();
        LampLighters one = Books.begun(BOOK, 0, 9);
        LampLighters all = Books.begun(BOOK, 0, 9, 9, 9);
        for (int wrong : new int[] {-1, 3, 4, Integer.MAX_VALUE, Integer.MIN_VALUE}) {
            for (LampLighters x : new LampLighters[] {none, one, all}) {
                Check.refuses("hasRound " + wrong, x, INDEX, () -> x.hasRound(wrong));
                Check.refuses("roundOf " + wrong, x, INDEX, () -> x.roundOf(wrong));
            }
        }
        Check.refuses("hasRound 0 of none", none, INDEX, () -> none.hasRound(0));
        Check.refuses("roundOf 0 of none", none, INDEX, () -> none.roundOf(0));
        Check.refuses("hasRound 1 of one", one, INDEX, () -> one.hasRound(1));
        Check.refuses("roundOf 1 of one", one, INDEX, () -> one.roundOf(1));
    }

    private static void clouds() {
        Check.about("Promise 8: returns whether it was cloudy; the sky is clear at first");
        LampLighters x = new LampLighters();
        Check.same("clear at first", x.setClouds(false), false);
        Check.same("still clear", x.setClouds(true), false);
        Check.same("cloudy", x.setClouds(true), true);
        Check.same("still cloudy", x.setClouds(false), true);
        Check.same("clear once more", x.setClouds(false), false);
    }

    private static void cloudsStay() {
        Check.about("Promise 8: from now on, over dawn as well");
        LampLighters x = new LampLighters();
        x.setClouds(true);
        x.passNights(5);
        Check.same("clouds stay", x.setClouds(false), true);
        x.passNights(5);
        Check.same("a clear sky stays", x.setClouds(true), false);
    }
}
