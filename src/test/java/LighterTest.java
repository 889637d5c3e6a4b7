/** Promises 31, 32 and 35 to 38: where lighters are, what they have and do, and what they noted. */
public final class LighterTest {
    private static final Class<IndexOutOfBoundsException> INDEX = IndexOutOfBoundsException.class;
    private static final String LAMPS = "lamp a at 0 holds 9;lamp b at 3 holds 4;lamp c at 3 holds 30;lamp d at 8 holds 1;";

    private LighterTest() {
    }

    public static void main(String[] args) {
        placeOnTheWay();
        placeOfDawn();
        placeBehindGivingUp();
        can();
        canOfEach();
        doneWithoutARound();
        doneWithoutActs();
        doneOnlyAsTheNextIsLookedFor();
        doneWithAnActBegun();
        doneWithInnerBlocks();
        doneWithEmptyBlocks();
        doneByGivingUp();
        doneTillDawn();
        busyWithNothing();
        busyWithAnAct();
        notesOfNone();
        notesInAll();
        notesOfManyCalls();
        noteOfTheLatest();
        noteOfTwenty();
        noteOfNotSoMany();
        noteOfMoreThanTwenty();
        notesOfEach();
        noSuchLighter();
        Check.end();
    }

    /** A street with these lamps, and a lighter who has begun a round with these acts. */
    private static LampLighters acting(String acts) {
        return Books.begun(LAMPS + "round r(" + acts + ")", 0, 9);
    }

    private static void placeOnTheWay() {
        Check.about("Promise 31: the post of the latest go that has ended");
        LampLighters x = acting("go b;go d;wait 9;");
        Check.same("at first", x.placeOf(0), 0);
        x.passQuarters(2);
        Check.same("on the way", x.placeOf(0), 0);
        x.passQuarters(1);
        Check.same("as it ends", x.placeOf(0), 3);
        x.passQuarters(4);
        Check.same("on another way", x.placeOf(0), 3);
        x.passQuarters(1);
        Check.same("as that ends", x.placeOf(0), 8);
        x.passQuarters(5);
        Check.same("behind it", x.placeOf(0), 8);
    }

    private static void placeOfDawn() {
        Check.about("Promise 31: the post 0 at dawn, on the way or not");
        LampLighters x = acting("go d;");
        x.passQuarters(39);
        Check.same("ahead of dawn", x.placeOf(0), 8);
        x.passQuarters(1);
        Check.same("at dawn", x.placeOf(0), 0);
        LampLighters y = acting("go b;wait 35;go d;");
        y.passQuarters(39);
        Check.same("on the way ahead of dawn", y.busyOf(0), 4);
        y.passQuarters(1);
        Check.same("on the way at dawn", y.placeOf(0), 0);
    }

    private static void placeBehindGivingUp() {
        Check.about("Promise 31: a go that is given up leaves this one where it was begun");
        LampLighters x = Books.begun(LAMPS + "round r(go b;go d;)round s()", 0, 9);
        x.passQuarters(7);
        Check.same("1 ahead of the end", x.busyOf(0), 1);
        x.assign(0, 1);
        x.passQuarters(9);
        Check.same("placeOf", x.placeOf(0), 3);
    }

    private static void can() {
        Check.about("Promise 32: the oil in the can, full at first, down to 0, full at dawn");
        LampLighters x = Books.begun(LAMPS + "round r(wait 4;do 9(fill 1;))", 0, 2);
        x.lightLamp(0);
        Check.same("at first", x.canOf(0), 2);
        x.passQuarters(5);
        Check.same("behind a fill", x.canOf(0), 1);
        x.passQuarters(1);
        Check.same("behind another one", x.canOf(0), 0);
        x.passQuarters(7);
        Check.same("no less than none", x.canOf(0), 0);
        x.passQuarters(40 - x.quarter());
        Check.same("at dawn", x.canOf(0), 2);
    }

    private static void canOfEach() {
        Check.about("Promise 32: each has a can of its own");
        LampLighters x = Books.street("lamp a at 0 holds 30;round r(fill 3;)", 1, 60, 7);
        x.lightLamp(0);
        x.passQuarters(20);
        x.assign(1, 0);
        x.passQuarters(1);
        Check.same("canOf 0", x.canOf(0), 1);
        Check.same("canOf 1", x.canOf(1), 57);
        Check.same("canOf 2", x.canOf(2), 7);
        x.passNights(1);
        Check.same("canOf 1 at dawn, and behind another fill", x.canOf(1), 57);
        Check.same("canOf 0 at dawn", x.canOf(0), 1);
    }

    private static void doneWithoutARound() {
        Check.about("Promise 35: done without a round");
        LampLighters x = Books.street(LAMPS, 9);
        Check.same("isDone", x.isDone(0), true);
        x.passQuarters(1);
        Check.same("isDone then", x.isDone(0), true);
    }

    private static void doneWithoutActs() {
        Check.about("Promise 35: with a round without acts this is so at once");
        LampLighters x = acting("");
        Check.same("isDone", x.isDone(0), true);
        x.passQuarters(40);
        Check.same("isDone at dawn", x.isDone(0), true);
    }

    private static void doneOnlyAsTheNextIsLookedFor() {
        Check.about("Promise 35: a block counts as ended only as the lighter looks for an act behind its last one");
        LampLighters x = acting("light;");
        Check.same("ahead of it", x.isDone(0), false);
        x.passQuarters(1);
        Check.same("the act has ended, the block hasn't", x.isDone(0), false);
        Check.same("busyOf then", x.busyOf(0), 0);
        x.passQuarters(1);
        Check.same("the block has ended", x.isDone(0), true);
        LampLighters off = Books.street("lamp a at 0 holds 9;round r(light;)", 9);
        Books.passTo(off, 11);
        off.assign(0, 0);
        off.setClouds(true);
        off.passQuarters(1);
        off.setClouds(false);
        off.passQuarters(9);
        Check.same("nobody looks in quarters that are off", off.isDone(0), false);
        off.setClouds(true);
        off.passQuarters(1);
        Check.same("but in the next one", off.isDone(0), true);
    }

    private static void doneWithAnActBegun() {
        Check.about("Promise 35: not done, as long as an act is begun");
        LampLighters x = acting("wait 5;");
        for (int n = 0; n < 5; n++) {
            Check.same("isDone behind " + n, x.isDone(0), false);
            x.passQuarters(1);
        }
        Check.same("behind the act", x.isDone(0), false);
        x.passQuarters(1);
        Check.same("behind all", x.isDone(0), true);
    }

    private static void doneWithInnerBlocks() {
        Check.about("Promise 35: each block that was entered has to end");
        for (String acts : new String[] {"do 1(do 1(light;))", "if 1=1(do 2(note 1;)light;)", "if 1=2()else(if 1=1(light;))",
            "do 1(light;do 0(note 1;))"}) {
            LampLighters x = acting(acts);
            x.passQuarters(1);
            Check.same("isDone in " + acts, x.isDone(0), false);
            x.passQuarters(1);
            Check.same("isDone behind " + acts, x.isDone(0), true);
        }
        LampLighters y = Books.begun("round q(wait 1;)round r(walk q;)", 1, 9);
        y.passQuarters(1);
        Check.same("isDone in another round", y.isDone(0), false);
        y.passQuarters(1);
        Check.same("isDone behind it", y.isDone(0), true);
    }

    private static void doneWithEmptyBlocks() {
        Check.about("Promise 35: a block without acts is not entered");
        LampLighters x = acting("note 1;do 5()if 1=1()");
        Check.same("ahead", x.isDone(0), false);
        x.passQuarters(1);
        Check.same("behind what is done at once", x.isDone(0), true);
        LampLighters y = acting("light;do 5()");
        y.passQuarters(1);
        Check.same("behind light", y.isDone(0), false);
        y.passQuarters(1);
        Check.same("behind all", y.isDone(0), true);
    }

    private static void doneByGivingUp() {
        Check.about("Promise 35: done, as all was given up");
        LampLighters x = acting("do 5(do 99(note 1;)light;)wait 5;");
        x.passQuarters(1);
        Check.same("isDone", x.isDone(0), true);
        Check.same("busyOf", x.busyOf(0), 0);
    }

    private static void doneTillDawn() {
        Check.about("Promise 35: done till dawn");
        LampLighters x = acting("light;");
        x.passQuarters(39);
        Check.same("ahead of dawn", x.isDone(0), true);
        x.passQuarters(1);
        Check.same("at dawn", x.isDone(0), false);
    }

    private static void busyWithNothing() {
        Check.about("Promise 36: 0 if no act is begun");
        LampLighters x = Books.street(LAMPS + "round r(note 1;wait 1;)", 9);
        Check.same("without a round", x.busyOf(0), 0);
        x.assign(0, 0);
        Check.same("as the round is assigned", x.busyOf(0), 0);
        x.passQuarters(1);
        Check.same("as the act has ended", x.busyOf(0), 0);
        x.passQuarters(1);
        Check.same("as all has ended", x.busyOf(0), 0);
    }

    private static void busyWithAnAct() {
        Check.about("Promise 36: how many quarters the act that is begun still takes");
        LampLighters x = acting("trim;go d;wait 99;");
        int[] due = {1, 0, 7, 6, 5, 4, 3, 2, 1, 0, 98, 97};
        for (int n = 0; n < due.length; n++) {
            x.passQuarters(1);
            Check.same("busyOf behind " + (n + 1), x.busyOf(0), due[n]);
        }
        x.passQuarters(40 - x.quarter());
        Check.same("busyOf at dawn", x.busyOf(0), 0);
        x.passQuarters(1);
        x.assign(0, 0);
        Check.same("busyOf as a round is assigned", x.busyOf(0), 0);
    }

    private static void notesOfNone() {
        Check.about("Promise 37: no notes at first");
        LampLighters x = acting("light;note 1;");
        Check.same("notesOf", x.notesOf(0), 0);
        x.passQuarters(1);
        Check.same("ahead of the first one", x.notesOf(0), 0);
        x.passQuarters(1);
        Check.same("behind the first one", x.notesOf(0), 1);
    }

    private static void notesInAll() {
        Check.about("Promise 37: all notes, more than 20 as well, of all rounds and nights");
        LampLighters x = acting("note 1;note 2;wait 1;do 19(note hour;)wait 1;note 77;");
        x.passQuarters(1);
        Check.same("two", x.notesOf(0), 2);
        x.passQuarters(1);
        Check.same("21", x.notesOf(0), 21);
        x.passQuarters(1);
        Check.same("22", x.notesOf(0), 22);
        x.assign(0, 0);
        Check.same("with another round", x.notesOf(0), 22);
        x.passNights(5);
        Check.same("of five more nights", x.notesOf(0), 22 + 22 * 5 + 22);
        Check.same("the latest", x.noteOf(0, 0), 77);
    }

    private static void notesOfManyCalls() {
        Check.about("Promises 37 and 38: the most notes that 500 calls can make");
        LampLighters x = Books.begun("round r(do 40(do 26(note hour;)note can;wait 1;))", 0, 60);
        x.setClouds(true);
        for (int n = 0; n < 490; n++) {
            x.passNights(5);
        }
        Check.same("notesOf", x.notesOf(0), 490 * 200 * 27);
        Check.same("the latest one", x.noteOf(0, 0), 60);
        for (int back = 1; back < 20; back++) {
            Check.same("note " + back + " back", x.noteOf(0, back), 39);
        }
    }

    private static void noteOfTheLatest() {
        Check.about("Promise 38: 0 the latest one, 1 that ahead of it, and so on");
        LampLighters x = acting("note 5;note 6;note 7;");
        x.passQuarters(1);
        for (int back = 0; back < 3; back++) {
            Check.same("note " + back + " back", x.noteOf(0, back), 7 - back);
        }
    }

    private static void noteOfTwenty() {
        Check.about("Promise 38: back is 0 to 19");
        StringBuilder acts = new StringBuilder();
        for (int i = 1; i <= 25; i++) {
            acts.append("note ").append(i).append(";");
        }
        LampLighters x = acting(acts + "wait 9;");
        x.passQuarters(1);
        for (int back = 0; back < 20; back++) {
            Check.same("note " + back + " back", x.noteOf(0, back), 25 - back);
        }
        for (int back : new int[] {-1, 20, 21, 24, 25, Integer.MAX_VALUE, Integer.MIN_VALUE}) {
            Check.refuses("note " + back + " back", x, INDEX, () -> x.noteOf(0, back));
        }
    }

    private static void noteOfNotSoMany() {
        Check.about("Promise 38: IndexOutOfBoundsException if back is not less than all notes of this one");
        LampLighters x = acting("do 21(note hour;wait 1;)");
        for (int notes = 0; notes <= 20; notes++) {
            Check.same("notesOf", x.notesOf(0), notes);
            for (int back = 0; back < notes && back < 20; back++) {
                Check.same("note " + back + " back of " + notes, x.noteOf(0, back), notes - 1 - back);
            }
            int behind = notes;
            Check.refuses("note " + notes + " back of " + notes, x, INDEX, () -> x.noteOf(0, behind));
            Check.refuses("note 19 back, or more, of " + notes, x, INDEX, () -> x.noteOf(0, Math.max(19, behind)));
            Check.refuses("note -1 back of " + notes, x, INDEX, () -> x.noteOf(0, -1));
            x.passQuarters(1);
        }
    }

    private static void noteOfMoreThanTwenty() {
        Check.about("Promise 38: of more than 20 notes the latest 20, wherever the row turns");
        LampLighters x = acting("do 39(note hour;wait 1;)");
        x.passQuarters(19);
        for (int notes = 20; notes <= 39; notes++) {
            x.passQuarters(1);
            Check.same("the first of 20, of " + notes, x.noteOf(0, 19), notes - 20);
            Check.same("the latest of " + notes, x.noteOf(0, 0), notes - 1);
        }
    }

    private static void notesOfEach() {
        Check.about("Promises 37 and 38: each has notes of its own");
        LampLighters x = Books.street("round r(note 1;)round s(note 2;note 3;)", 9, 9, 9);
        x.assign(0, 0);
        x.assign(2, 1);
        x.passQuarters(1);
        Check.same("notesOf 0", x.notesOf(0), 1);
        Check.same("notesOf 1", x.notesOf(1), 0);
        Check.same("notesOf 2", x.notesOf(2), 2);
        Check.same("noteOf 0", x.noteOf(0, 0), 1);
        Check.same("noteOf 2", x.noteOf(2, 0), 3);
        Check.refuses("noteOf 1", x, INDEX, () -> x.noteOf(1, 0));
        Check.refuses("noteOf 0, 1 back", x, INDEX, () -> x.noteOf(0, 1));
    }

    private static void refusesAll(LampLighters x, int lighter, int of) {
        String[] names = {"Promise 31: placeOf", "Promise 32: canOf", "Promise 35: isDone", "Promise 36: busyOf",
            "Promise 37: notesOf", "Promise 38: noteOf", "Promise 38: noteOf, neither lighter nor note"};
        Check.Call[] calls = {() -> x.placeOf(lighter), () -> x.canOf(lighter), () -> x.isDone(lighter),
            () -> x.busyOf(lighter), () -> x.notesOf(lighter), () -> x.noteOf(lighter, 0), () -> x.noteOf(lighter, -1)};
        for (int i = 0; i < calls.length; i++) {
            Check.about(names[i] + ": IndexOutOfBoundsException if there is no such lighter");
            Check.refuses("lighter " + lighter + " of " + of, x, INDEX, calls[i]);
        }
    }

    private static void noSuchLighter() {
        // Promises 31, 32 and 35 to 38: no such lighter, of none, one and three
        int[][] cans = {{}, {9}, {9, 9, 9}};
        for (int[] all : cans) {
            LampLighters x = Books.street(LAMPS + "round r(note 1;)", all);
            for (int i = 0; i < all.length; i++) {
                x.assign(i, 0);
            }
            x.passQuarters(1);
            for (int wrong : new int[] {-1, all.length, 3, 4, Integer.MAX_VALUE, Integer.MIN_VALUE}) {
                refusesAll(x, wrong, all.length);
            }
        }
    }
}
