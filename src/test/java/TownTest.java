/** Promises 6 to 8, 30, 33 and 34: hiring, rounds of lighters, clouds. */
public final class TownTest {
    private static final String BOOK = "lamp a at 4 holds 9;round r(note 1;go a;light;)round s()round t(wait 3;note 3;)";

    private TownTest() {
    }

    public static void main(String[] args) {
        hire();
        hireLater();
        assign();
        assignGivesUp();
        assignWrong();
        clouds();
        Check.end();
    }

    private static void hire() {
        LampLighters x = new LampLighters();
        for (int can : new int[] {0, -1, 61, Integer.MIN_VALUE, Integer.MAX_VALUE}) {
            Check.refuses("hire of " + can, x, IllegalArgumentException.class, () -> x.hire(can));
        }
        Check.same("the first one", x.hire(1), 0);
        Check.same("the second one", x.hire(60), 1);
        Check.same("lighters", x.lighters(), 2);
        Check.same("the third one", x.hire(30), 2);
        Check.same("canOf 0", x.canOf(0), 1);
        Check.same("canOf 1", x.canOf(1), 60);
        Check.same("canOf 2", x.canOf(2), 30);
        Check.refuses("a fourth one", x, IllegalStateException.class, () -> x.hire(30));
        Check.refuses("a fourth one with no can", x, IllegalArgumentException.class, () -> x.hire(0));
        Check.refuses("a fourth one with a huge can", x, IllegalArgumentException.class, () -> x.hire(61));
        Check.same("all lighters", x.lighters(), 3);
    }

    private static void hireLater() {
        LampLighters x = Books.begun(BOOK, 0, 9);
        x.passQuarters(2);
        Check.same("hired later", x.hire(5), 1);
        Check.same("placeOf of one hired later", x.placeOf(1), 0);
        Check.same("canOf of one hired later", x.canOf(1), 5);
        Check.same("hasRound of one hired later", x.hasRound(1), false);
        Check.same("isDone of one hired later", x.isDone(1), true);
        Check.same("busyOf of one hired later", x.busyOf(1), 0);
        Check.same("notesOf of one hired later", x.notesOf(1), 0);
        Check.refuses("roundOf of one hired later", x, IllegalStateException.class, () -> x.roundOf(1));
        Check.same("the first goes on", x.busyOf(0), 2);
        x.passNights(1);
        Check.same("without a round at dawn", x.hasRound(1), false);
        Check.same("isDone without a round at dawn", x.isDone(1), true);
        Check.same("isDone with a round at dawn", x.isDone(0), false);
    }

    private static void assign() {
        LampLighters x = Books.street(BOOK, 9, 9);
        Check.same("no round", x.hasRound(0), false);
        Check.same("the first round", x.assign(0, 0), -1);
        Check.same("has a round", x.hasRound(0), true);
        Check.same("roundOf", x.roundOf(0), 0);
        Check.same("not done", x.isDone(0), false);
        Check.same("the other has none", x.hasRound(1), false);
        Check.same("another round", x.assign(0, 2), 0);
        Check.same("roundOf another", x.roundOf(0), 2);
        Check.same("the same round", x.assign(0, 2), 2);
        Check.same("a round without acts", x.assign(0, 1), 2);
        Check.same("is done at once", x.isDone(0), true);
        Check.same("has it all the same", x.roundOf(0), 1);
        Check.same("of the other", x.assign(1, 2), -1);
    }

    private static void assignGivesUp() {
        LampLighters x = Books.begun(BOOK, 0, 9);
        x.passQuarters(3);
        Check.same("busyOf on the way", x.busyOf(0), 1);
        Check.same("placeOf on the way", x.placeOf(0), 0);
        x.assign(0, 0);
        Check.same("busyOf of what was given up", x.busyOf(0), 0);
        Check.same("notes stay", x.notesOf(0), 1);
        x.passQuarters(3);
        Check.same("the way begins anew", x.placeOf(0), 0);
        x.passQuarters(1);
        Check.same("the way ends", x.placeOf(0), 4);
        Check.same("notes go on", x.notesOf(0), 2);
        x.assign(0, 2);
        Check.same("from where this one is", x.placeOf(0), 4);
        x.passQuarters(3);
        x.assign(0, 0);
        x.passQuarters(1);
        Check.same("a way of no post takes none", x.isLit(0), true);
        Check.same("what is left of a round is given up", x.noteOf(0, 0), 1);
        x.passNights(1);
        x.passQuarters(3);
        Check.same("the round assigned last begins at dawn", x.notesOf(0), 4);
    }

    private static void assignWrong() {
        LampLighters none = Books.street(BOOK);
        Check.refuses("assign without lighters", none, IndexOutOfBoundsException.class, () -> none.assign(0, 0));
        LampLighters x = Books.begun(BOOK, 0, 9);
        int[][] all = {{-1, 0}, {1, 0}, {0, -1}, {0, 3}, {Integer.MAX_VALUE, 0}, {0, Integer.MAX_VALUE},
            {Integer.MIN_VALUE, 0}, {0, Integer.MIN_VALUE}, {3, 0}, {0, 6}};
        for (int[] of : all) {
            Check.refuses("assign " + of[0] + " " + of[1], x, IndexOutOfBoundsException.class,
                () -> x.assign(of[0], of[1]));
        }
        for (int lighter : new int[] {-1, 1, 3, Integer.MAX_VALUE, Integer.MIN_VALUE}) {
            Check.refuses("hasRound " + lighter, x, IndexOutOfBoundsException.class, () -> x.hasRound(lighter));
            Check.refuses("roundOf " + lighter, x, IndexOutOfBoundsException.class, () -> x.roundOf(lighter));
        }
        Check.same("the round stays", x.roundOf(0), 0);
    }

    private static void clouds() {
        LampLighters x = new LampLighters();
        Check.same("clear at first", x.setClouds(false), false);
        Check.same("still clear", x.setClouds(true), false);
        Check.same("cloudy", x.setClouds(true), true);
        Check.same("still cloudy", x.setClouds(false), true);
        Check.same("clear once more", x.setClouds(false), false);
        x.setClouds(true);
        x.passNights(5);
        Check.same("clouds stay by night", x.setClouds(true), true);
        x.teach();
        Check.same("teach clears the sky", x.setClouds(true), false);
    }
}
