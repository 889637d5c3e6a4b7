/** Of "Terms", lighters: what acts do, how long they take, measures, and how a lighter works for a quarter. */
public final class ActTest {
    private static final String LAMPS = "lamp a at 0 holds 9;lamp b at 3 holds 4;lamp c at 3 holds 30;lamp d at 8 holds 1;";

    private ActTest() {
    }

    public static void main(String[] args) {
        howLong();
        lastOfAll();
        goEitherWay();
        goFar();
        goNowhere();
        waitNone();
        waitTheMost();
        waitAsItBegins();
        doneAsItEnds();
        nothingElse();
        numbersAtAnyPost();
        theEightiethAct();
        light();
        lightWhatCannotBeLit();
        douse();
        trim();
        smallestNumber();
        withoutALamp();
        fillTheValue();
        fillTheCan();
        fillTheRoom();
        fillOfMeasures();
        noteValues();
        walk();
        walkAnEmptyRound();
        walkDeep();
        walkDeepest();
        doTimes();
        doNotAtAll();
        doTheMost();
        doAsItBegins();
        compares();
        allCompares();
        manyCompares();
        elses();
        ifAsItBegins();
        measures();
        measuresWithoutALamp();
        measuresOfTheSmallestNumber();
        nothingBehindTheEnd();
        twentyNineAtOnce();
        thirtyAtOnce();
        thirtyOfEachKind();
        thirtyAndEndsOfBlocks();
        thirtiethEntersNothing();
        thirtyInEachQuarter();
        thirtyAndTheLast();
        givenUpTillDawn();
        givenUpTillAssigned();
        Check.end();
    }

    /** A street with these lamps, and a lighter who has begun a round with these acts. */
    private static LampLighters acting(String acts) {
        return Books.begun(LAMPS + "round r(" + acts + ")", 0, 9);
    }

    private static void state(String what, LampLighters x, int place, int busy, boolean done) {
        Check.same("placeOf " + what, x.placeOf(0), place);
        Check.same("busyOf " + what, x.busyOf(0), busy);
        Check.same("isDone " + what, x.isDone(0), done);
    }

    /** What was noted in the first quarter, as the digits of one number. */
    private static int noted(String acts) {
        LampLighters x = acting(acts + "wait 1;");
        x.passQuarters(1);
        int all = 0;
        for (int back = x.notesOf(0) - 1; back >= 0; back--) {
            all = all * 10 + x.noteOf(0, back);
        }
        return all;
    }

    private static void howLong() {
        Check.about("Terms, lighters: light, douse 1; trim 2; fill 1; wait its value; go as many as posts lie apart");
        String[] acts = {"light;", "douse;", "trim;", "fill 3;", "fill 0;", "fill 99;", "wait 1;", "wait 2;", "wait 7;",
            "go b;", "go d;"};
        int[] due = {1, 1, 2, 1, 1, 1, 1, 2, 7, 3, 8};
        for (int i = 0; i < acts.length; i++) {
            LampLighters x = acting(acts[i] + "note 1;wait 9;");
            for (int n = 1; n <= due[i]; n++) {
                x.passQuarters(1);
                Check.same("busyOf of " + acts[i] + " behind " + n, x.busyOf(0), due[i] - n);
                Check.same("notesOf of " + acts[i] + " behind " + n, x.notesOf(0), 0);
            }
            x.passQuarters(1);
            Check.same("notesOf behind " + acts[i], x.notesOf(0), 1);
            Check.same("busyOf of the next act", x.busyOf(0), 8);
        }
    }

    private static void lastOfAll() {
        Check.about("Terms, lighters: behind the last act this one is done");
        LampLighters x = acting("light;");
        x.passQuarters(2);
        state("behind the last one", x, 0, 0, true);
        x.passQuarters(38 - x.quarter());
        state("further on", x, 0, 0, true);
        Check.same("nothing more is done", x.notesOf(0), 0);
    }

    private static void goEitherWay() {
        Check.about("Terms, lighters: go, up and down the street, at that post as it ends");
        LampLighters x = acting("go d;go b;go c;go a;");
        state("ahead of all", x, 0, 0, false);
        x.passQuarters(1);
        state("on the way", x, 0, 7, false);
        x.passQuarters(6);
        state("ahead of the end", x, 0, 1, false);
        x.passQuarters(1);
        state("at the end", x, 8, 0, false);
        x.passQuarters(1);
        state("on the way back", x, 8, 4, false);
        x.passQuarters(4);
        state("at the end of it", x, 3, 0, false);
        x.passQuarters(3);
        state("home", x, 0, 0, false);
    }

    private static void goFar() {
        Check.about("Terms, lighters: go from the post 0 to 29 and back");
        LampLighters x = Books.begun("lamp a at 29 holds 9;lamp b at 28 holds 9;lamp c at 29 holds 1;round r(go a;go b;go c;)",
            0, 9);
        x.passQuarters(28);
        state("at 28 of 29", x, 0, 1, false);
        x.passQuarters(1);
        state("at the last post", x, 29, 0, false);
        x.passQuarters(1);
        state("1 back", x, 28, 0, false);
        x.passQuarters(1);
        state("1 on", x, 29, 0, false);
        LampLighters y = Books.begun("lamp a at 29 holds 9;lamp b at 0 holds 9;round r(go a;)round s(go b;)", 0, 9);
        y.setClouds(true);
        y.passQuarters(29);
        y.assign(0, 1);
        y.passQuarters(1);
        state("on all the way back", y, 29, 28, false);
        // dawn comes in between
        y.passQuarters(10);
        state("at dawn", y, 0, 0, false);
    }

    private static void goNowhere() {
        Check.about("Terms, lighters: a go that takes none is done at once");
        LampLighters x = acting("go a;go a;note 1;go b;go c;go b;note post;wait 5;");
        x.passQuarters(1);
        Check.same("behind two at the post 0", x.notesOf(0), 1);
        state("on the way", x, 0, 2, false);
        x.passQuarters(2);
        Check.same("as it ends", x.notesOf(0), 1);
        x.passQuarters(1);
        Check.same("behind two at the post 3", x.noteOf(0, 0), 3);
        state("in the next act", x, 3, 4, false);
    }

    private static void waitNone() {
        Check.about("Terms, lighters: a wait of none, or of less, is done at once");
        LampLighters x = acting("wait 3;wait 0;wait 1;note hour;");
        x.passQuarters(3);
        state("behind wait 3", x, 0, 0, false);
        x.passQuarters(1);
        Check.same("wait 0 takes none, wait 1 one", x.notesOf(0), 0);
        x.passQuarters(1);
        Check.same("the hour then", x.noteOf(0, 0), 4);
        LampLighters y = Books.begun("lamp b at 3 holds 4;round r(wait oil;wait wick;wait lit;wait hour;note 1;wait 1;)", 0, 9);
        y.passQuarters(1);
        Check.same("waits of -1 and 0", y.notesOf(0), 1);
        state("behind them", y, 0, 0, false);
    }

    private static void waitTheMost() {
        Check.about("Terms, lighters: a wait of 99 is given up at dawn");
        LampLighters x = acting("wait 99;note 1;");
        x.passQuarters(1);
        Check.same("busyOf", x.busyOf(0), 98);
        x.passQuarters(38);
        Check.same("busyOf in the last quarter", x.busyOf(0), 60);
        x.passQuarters(1);
        state("at dawn", x, 0, 0, false);
        x.passQuarters(1);
        Check.same("it is begun anew", x.busyOf(0), 98);
    }

    private static void waitAsItBegins() {
        Check.about("Terms, lighters: a wait takes as many as its value is as it begins");
        LampLighters x = acting("wait 4;wait hour;note hour;");
        x.passQuarters(5);
        Check.same("wait hour", x.busyOf(0), 3);
        x.passQuarters(3);
        Check.same("it ends", x.busyOf(0), 0);
        x.passQuarters(1);
        Check.same("the hour then", x.noteOf(0, 0), 8);
        LampLighters y = acting("light;wait oil;note 1;");
        y.passQuarters(2);
        Check.same("wait oil", y.busyOf(0), 8);
        y.fillLamp(0, 9);
        y.passQuarters(8);
        Check.same("it ends whatever the oil is", y.busyOf(0), 0);
        y.passQuarters(1);
        Check.same("the note then", y.notesOf(0), 1);
    }

    private static void doneAsItEnds() {
        Check.about("Terms, lighters: what an act does is done as it ends");
        LampLighters x = acting("light;wait 11;trim;go b;");
        x.passQuarters(12);
        Check.same("the wick ahead of it", x.wickOf(0), 7);
        x.passQuarters(1);
        Check.same("amid trim", x.wickOf(0), 7);
        x.passQuarters(1);
        Check.same("as it ends", x.wickOf(0), 10);
        x.passQuarters(2);
        Check.same("amid go", x.placeOf(0), 0);
        x.passQuarters(1);
        Check.same("as that ends", x.placeOf(0), 3);
        LampLighters y = acting("light;wait 10;trim;");
        y.passQuarters(12);
        y.assign(0, 0);
        y.passQuarters(1);
        Check.same("a trim that was given up does nothing", y.wickOf(0), 7);
    }

    private static void nothingElse() {
        Check.about("Terms, lighters: an act does what it says, and nothing else");
        String[] acts = {"douse;", "trim;wait 1;", "fill 2;", "light;", "wait 1;", "note 9;", "do 9()", "if 1=1()", "go a;"};
        int[] oil = {24, 24, 26, 24, 24, 24, 24, 24, 24};
        int[] wick = {7, 10, 7, 7, 7, 7, 7, 7, 7};
        int[] can = {9, 9, 7, 9, 9, 9, 9, 9, 9};
        for (int i = 0; i < acts.length; i++) {
            // other acts stood in the books before
            LampLighters x = Books.street("round r(" + "fill 9;".repeat(9) + ")", 9);
            Books.teach(x, "round s(" + "fill 9;".repeat(9) + ")");
            Books.teach(x, "lamp a at 0 holds 30;lamp b at 1 holds 30;round r(" + acts[i] + ")");
            x.lightLamp(0);
            x.passQuarters(12);
            x.douseLamp(0);
            x.assign(0, 0);
            x.passQuarters(acts[i].startsWith("trim") ? 2 : 1);
            Check.same("oilOf behind " + acts[i], x.oilOf(0), oil[i]);
            Check.same("wickOf behind " + acts[i], x.wickOf(0), wick[i]);
            Check.same("isLit behind " + acts[i], x.isLit(0), acts[i].equals("light;"));
            Check.same("canOf behind " + acts[i], x.canOf(0), can[i]);
            Check.same("placeOf behind " + acts[i], x.placeOf(0), 0);
            Check.same("notesOf behind " + acts[i], x.notesOf(0), acts[i].equals("note 9;") ? 1 : 0);
        }
    }

    private static void numbersAtAnyPost() {
        Check.about("Terms, lighters: a number, also 0, is what it says wherever this one is");
        LampLighters x = acting("go d;note 0;note 1;wait 0;do 0(note 2;)if 0=0 and 0<1(note 3;)if 0=post(note 4;)fill 0;"
            + "note can;wait 9;");
        x.lightLamp(3);
        x.passQuarters(9);
        long[] due = {9, 3, 1, 0};
        Check.same("notesOf", x.notesOf(0), 3);
        x.passQuarters(1);
        Check.same("notesOf then", x.notesOf(0), 4);
        for (int back = 0; back < 4; back++) {
            Check.same("note " + back + " back", x.noteOf(0, back), due[back]);
        }
        Check.same("fill 0", x.oilOf(3), 0);
    }

    private static void theEightiethAct() {
        Check.about("Terms, lighters: the 80th act of a book is done as any other");
        String start = Books.lamps(10) + "round r(" + "trim;".repeat(40) + ")round s(" + "trim;".repeat(38) + ")round t(note 1;";
        LampLighters x = Books.begun(start + "note 77;)", 2, 9);
        x.passQuarters(1);
        Check.same("note 77", x.noteOf(0, 0), 77);
        LampLighters y = Books.begun(start + "go h;)", 2, 9);
        y.passQuarters(7);
        Check.same("go h", y.placeOf(0), 7);
        LampLighters z = Books.begun(start + "wait 5;)", 2, 9);
        z.passQuarters(1);
        Check.same("wait 5", z.busyOf(0), 4);
        LampLighters v = Books.begun(start.replace("note 1;", "do 2(") + "note hour;))", 2, 9);
        v.passQuarters(1);
        Check.same("note in the last do", v.notesOf(0), 2);
        LampLighters w = Books.begun(start.replace("note 1;", "if 1=2()else(") + "light;))", 2, 9);
        w.passQuarters(1);
        Check.same("light in the last else", w.isLit(0), true);
    }

    private static void light() {
        Check.about("Terms, lighters: light and a lamp at this post is lit; once more it stays lit");
        LampLighters x = acting("go b;light;light;");
        x.passQuarters(3);
        Check.same("ahead of it", x.isLit(1), false);
        x.passQuarters(1);
        Check.same("isLit", x.isLit(1), true);
        Check.same("one alone", x.litLamps(), 1);
        x.passQuarters(1);
        Check.same("once more", x.isLit(1), true);
        Check.same("its clock goes on", x.oilOf(1), 3);
    }

    private static void lightWhatCannotBeLit() {
        Check.about("Terms, lighters: light without oil, or without a wick, lights nothing, but takes as long");
        LampLighters x = acting("go d;light;wait 1;light;note lit;wait 9;");
        x.passQuarters(10);
        Check.same("its oil is burnt", x.oilOf(3), 0);
        x.passQuarters(1);
        Check.same("isLit", x.isLit(3), false);
        x.passQuarters(1);
        Check.same("the note of it", x.noteOf(0, 0), 0);
        LampLighters y = Books.street("lamp a at 0 holds 30;round r(light;)", 9);
        y.lightLamp(0);
        y.passQuarters(40);
        y.assign(0, 0);
        Check.same("its wick is burnt", y.wickOf(0), 0);
        Check.same("dark", y.passQuarters(2), 2);
        Check.same("isLit without a wick", y.isLit(0), false);
    }

    private static void douse() {
        Check.about("Terms, lighters: douse and a lamp at this post is not lit, also one that wasn't");
        LampLighters x = acting("light;go b;light;douse;douse;");
        x.passQuarters(5);
        Check.same("ahead of it", x.isLit(1), true);
        x.passQuarters(1);
        Check.same("doused", x.isLit(1), false);
        Check.same("another stays", x.isLit(0), true);
        x.passQuarters(1);
        Check.same("once more", x.isLit(1), false);
    }

    private static void trim() {
        Check.about("Terms, lighters: trim and the wick is 10, whatever it was");
        LampLighters x = Books.street("lamp a at 0 holds 30;round r(trim;)", 9);
        x.assign(0, 0);
        x.passQuarters(2);
        Check.same("of a whole one", x.wickOf(0), 10);
        x.lightLamp(0);
        x.passQuarters(38);
        x.lightLamp(0);
        x.douseLamp(0);
        Check.same("wickOf", x.wickOf(0), 1);
        x.lightLamp(0);
        x.passQuarters(1);
        Check.same("amid it", x.wickOf(0), 1);
        x.passQuarters(1);
        // it is trimmed ahead of burning
        Check.same("of 1", x.wickOf(0), 9);
        Check.same("and it stays lit", x.isLit(0), true);
    }

    private static void smallestNumber() {
        Check.about("Terms, lighters: of several lamps at the post the one with the smallest number");
        String book = "lamp z at 4 holds 9;lamp a at 0 holds 9;lamp b at 0 holds 9;lamp c at 0 holds 9;";
        LampLighters x = Books.begun(book + "round r(light;wait 7;trim;fill 2;douse;)", 0, 9);
        x.passQuarters(1);
        Check.same("light", x.isLit(1), true);
        Check.same("no other", x.litLamps(), 1);
        x.lightLamp(2);
        x.lightLamp(3);
        x.passQuarters(7);
        x.passQuarters(2);
        Check.same("trim", x.wickOf(1), 10);
        Check.same("no other is trimmed", x.wickOf(2), 8);
        x.passQuarters(1);
        Check.same("fill", x.oilOf(1), 9 - 5 + 2);
        Check.same("no other is filled", x.oilOf(2), 9 - 5);
        x.passQuarters(1);
        Check.same("douse", x.isLit(1), false);
        Check.same("no other is put out", x.litLamps(), 2);
    }

    private static void withoutALamp() {
        Check.about("Terms, lighters: without a lamp at the post nothing happens, but an act takes as long");
        LampLighters x = Books.begun("lamp b at 3 holds 4;round r(light;trim;fill 3;douse;)", 0, 9);
        x.lightLamp(0);
        x.passQuarters(5);
        state("ahead of the end", x, 0, 0, false);
        Check.same("nothing is doused yet", x.isLit(0), true);
        Check.same("nothing is taken from the can", x.canOf(0), 9);
        Check.same("nothing is trimmed", x.wickOf(0), 9);
        Check.same("nothing is filled", x.oilOf(0), 2);
        x.passQuarters(1);
        state("at the end", x, 0, 0, true);
        Check.same("nothing is doused", x.isLit(0), true);
        LampLighters none = Books.begun("round r(light;trim;fill 3;douse;note 1;)", 0, 9);
        none.passQuarters(6);
        Check.same("without any lamps", none.notesOf(0), 1);
        Check.same("the can without any lamps", none.canOf(0), 9);
    }

    private static void fillTheValue() {
        Check.about("Terms, lighters: fill as much as the value is, also none");
        LampLighters x = Books.street(LAMPS + "round r(fill 3;)round s(fill 0;)round t(fill 1;)", 9);
        x.lightLamp(0);
        x.passQuarters(16);
        x.douseLamp(0);
        Check.same("the oil ahead", x.oilOf(0), 1);
        int[] oil = {4, 4, 5};
        int[] can = {6, 6, 5};
        for (int round = 0; round < 3; round++) {
            x.assign(0, round);
            x.passQuarters(1);
            Check.same("oilOf", x.oilOf(0), oil[round]);
            Check.same("canOf", x.canOf(0), can[round]);
        }
        Check.same("nothing is burnt", x.oilBurnt(), 8);
    }

    private static void fillTheCan() {
        Check.about("Terms, lighters: fill no more than the can has, also an empty one, till it is full at dawn");
        LampLighters x = Books.street(LAMPS + "round r(fill 9;)round s(fill 5;)", 5);
        x.lightLamp(0);
        x.passQuarters(16);
        x.douseLamp(0);
        x.assign(0, 0);
        x.passQuarters(1);
        Check.same("all of the can", x.oilOf(0), 6);
        Check.same("an empty can", x.canOf(0), 0);
        x.assign(0, 0);
        x.passQuarters(1);
        Check.same("of an empty can nothing", x.oilOf(0), 6);
        Check.same("it stays empty", x.canOf(0), 0);
        x.passQuarters(40 - x.quarter());
        Check.same("full at dawn", x.canOf(0), 5);
        x.passQuarters(1);
        Check.same("then the lamp is full", x.oilOf(0), 9);
        Check.same("and the rest is in the can", x.canOf(0), 2);
        LampLighters y = Books.begun("lamp c at 0 holds 30;round r(wait 12;fill 5;)", 0, 5);
        y.lightLamp(0);
        y.passQuarters(13);
        Check.same("just what the can has", y.oilOf(0), 29);
        Check.same("it is empty then", y.canOf(0), 0);
    }

    private static void fillTheRoom() {
        Check.about("Terms, lighters: fill no more than the lamp has room for, also a full one");
        LampLighters x = Books.street(LAMPS + "round r(fill 9;)round s(fill 3;)round t(fill 99;)", 9);
        x.lightLamp(0);
        x.passQuarters(6);
        x.douseLamp(0);
        x.assign(0, 0);
        x.passQuarters(1);
        Check.same("a full lamp", x.oilOf(0), 9);
        Check.same("the rest stays in the can", x.canOf(0), 6);
        x.assign(0, 2);
        x.passQuarters(1);
        Check.same("no room", x.oilOf(0), 9);
        Check.same("nothing is lost", x.canOf(0), 6);
        x.lightLamp(0);
        x.passQuarters(6);
        x.douseLamp(0);
        x.assign(0, 1);
        x.passQuarters(1);
        Check.same("just what it has room for", x.oilOf(0), 9);
        Check.same("the can then", x.canOf(0), 3);
    }

    private static void fillOfMeasures() {
        Check.about("Terms, lighters: fill as much as a measure is, also one of 0, or -1");
        LampLighters x = Books.street("lamp a at 1 holds 30;round r(go a;fill lit;fill hour;wait 1;fill oil;fill can;)", 60);
        x.lightLamp(0);
        x.passQuarters(40);
        x.assign(0, 0);
        Check.same("the oil ahead", x.oilOf(0), 10);
        x.passQuarters(2);
        Check.same("not lit, nothing", x.oilOf(0), 10);
        x.passQuarters(1);
        Check.same("the hour is 2", x.oilOf(0), 12);
        x.passQuarters(2);
        Check.same("twice the oil", x.oilOf(0), 24);
        Check.same("the can then", x.canOf(0), 46);
        x.passQuarters(1);
        Check.same("all of the can, but no more than room", x.oilOf(0), 30);
        Check.same("the can behind it", x.canOf(0), 40);
        LampLighters y = Books.begun("lamp a at 1 holds 9;round r(fill oil;go a;wait 20;fill oil;)", 0, 60);
        y.passQuarters(1);
        Check.same("no lamp, no oil", y.canOf(0), 60);
        y.lightLamp(0);
        y.passQuarters(21);
        Check.same("oil of 0, nothing of it", y.canOf(0), 60);
        Check.same("oilOf", y.oilOf(0), 0);
    }

    private static void noteValues() {
        Check.about("Terms, lighters: note, values from -1 to 99");
        LampLighters x = Books.begun("lamp b at 3 holds 4;round r(note 0;note 99;note oil;note 042;wait 1;)", 0, 9);
        x.passQuarters(1);
        long[] due = {42, -1, 99, 0};
        for (int back = 0; back < due.length; back++) {
            Check.same("note " + back + " back", x.noteOf(0, back), due[back]);
        }
    }

    private static void walk() {
        Check.about("Terms, lighters: walk, all acts of that round are done, then those behind it");
        String rounds = "round p(note 1;wait 1;note 2;)round q()round r(walk p;note 3;walk q;note 4;do 2(walk p;)wait 9;)";
        LampLighters x = Books.begun(LAMPS + rounds, 2, 9);
        x.passQuarters(1);
        Check.same("in the other round", x.noteOf(0, 0), 1);
        Check.same("the round stays", x.roundOf(0), 2);
        x.passQuarters(1);
        long[] due = {1, 4, 3, 2, 1};
        Check.same("notes of it", x.notesOf(0), 5);
        for (int i = 0; i < due.length; i++) {
            Check.same("note " + i + " back", x.noteOf(0, i), due[i]);
        }
        x.passQuarters(2);
        Check.same("walked twice more", x.notesOf(0), 8);
        Check.same("the last act", x.busyOf(0), 8);
    }

    private static void walkAnEmptyRound() {
        Check.about("Terms, lighters: walk of a round without acts does nothing");
        LampLighters x = Books.begun("round q()round p(walk q;)round r(walk q;walk p;note 1;walk q;)", 2, 9);
        x.passQuarters(1);
        Check.same("notesOf", x.notesOf(0), 1);
        state("behind it", x, 0, 0, true);
    }

    private static void walkDeep() {
        Check.about("Terms, lighters: each of six rounds walks the one ahead of it from its innermost block");
        StringBuilder text = new StringBuilder();
        for (int i = 0; i < 6; i++) {
            char name = (char) ('p' + i);
            text.append("round ").append(name).append("(do 1(do 2(do 1(do 1(do 1(");
            text.append(i == 0 ? "note 7;wait 1;" : "walk " + (char) (name - 1) + ";").append(")))))");
            text.append("note ").append(i).append(";)");
        }
        LampLighters x = Books.begun(text.toString(), 5, 9);
        x.passQuarters(1);
        state("thirty acts on the way down", x, 0, 0, true);
        LampLighters y = Books.begun(text.toString(), 3, 9);
        y.passQuarters(1);
        Check.same("at the bottom", y.noteOf(0, 0), 7);
        y.passQuarters(31);
        // each of 16 quarters has a note of its own, and each end of a round has one more
        state("behind all", y, 0, 0, true);
        Check.same("all notes", y.notesOf(0), 16 + 8 + 4 + 2 + 1);
        Check.same("the last one", y.noteOf(0, 0), 3);
        Check.same("the one ahead of it", y.noteOf(0, 1), 2);
    }

    /** Six rounds, each of them walked in the sixth block of the one behind it. */
    private static String deepest() {
        StringBuilder text = new StringBuilder("lamp a at 0 holds 9;");
        for (int i = 0; i < 6; i++) {
            char name = (char) ('p' + i);
            text.append("round ").append(name).append("(do 1(do 1(do 1(do 1(do ").append(i == 0 ? 2 : 1).append("(");
            // 30 at once would be too many on the way down, and on the way up
            text.append(i == 3 ? "wait 1;" : "");
            text.append(i == 0 ? "note 7;wait 1;light;douse;" : "walk " + (char) (name - 1) + ";");
            text.append(i == 3 ? "wait 1;" : "");
            text.append("note 1;)note 2;)note 3;)note 4;)note 5;))");
        }
        return text.toString();
    }

    private static void walkDeepest() {
        Check.about("Terms, lighters: in 36 blocks at once, as many as a book can lead into");
        LampLighters x = Books.begun(deepest(), 5, 9);
        x.passQuarters(1);
        Check.same("notes on the way down", x.notesOf(0), 0);
        Check.same("quartersUntilLit on the way down", x.quartersUntilLit(0), 2);
        x.passQuarters(1);
        Check.same("notes at the bottom", x.notesOf(0), 1);
        Check.same("the first one", x.noteOf(0, 0), 7);
        Check.same("quartersUntilLit at the bottom", x.quartersUntilLit(0), 1);
        x.passQuarters(2);
        Check.same("quartersUntilLit once more", x.quartersUntilLit(0), 2);
        Check.same("darkAfter", x.darkAfter(6), 5);
        x.passQuarters(1);
        Check.same("notes at the bottom once more", x.notesOf(0), 3);
        x.passQuarters(3);
        Check.same("notes up to the fourth round", x.notesOf(0), 3 + 3 * 5);
        x.passQuarters(1);
        Check.same("all notes", x.notesOf(0), 3 + 6 * 5);
        for (int i = 0; i < 20; i++) {
            Check.same("note " + i + " back", x.noteOf(0, i), 5 - i % 5);
        }
        state("behind all", x, 0, 0, true);
    }

    private static void doTimes() {
        Check.about("Terms, lighters: do, as often as the value is");
        Check.same("do 3", noted("do 3(note 1;note 2;)note 3;"), 1212123);
        Check.same("do 2", noted("do 2(note 1;)note 3;"), 113);
        Check.same("do 1", noted("do 1(note 1;)note 3;"), 13);
        Check.same("do in a do", noted("do 2(do 2(note 1;)note 2;)note 3;"), 1121123);
        LampLighters x = acting("do can(note can;go b;if lit=0(light;)else(douse;)go a;)");
        x.passQuarters(39);
        Check.same("as often as the can", x.notesOf(0), 6);
    }

    private static void doNotAtAll() {
        Check.about("Terms, lighters: do not at all, if the value is less than 1");
        Check.same("do 0", noted("do 0(note 1;)note 3;"), 3);
        Check.same("do of a measure of 0", noted("do lit(note 1;)do hour(note 2;)do post(note 4;)note 3;"), 3);
        LampLighters z = Books.begun("lamp b at 3 holds 4;round r(do oil(note 1;)do lit(note 2;)note 3;wait 1;)", 0, 9);
        z.passQuarters(1);
        Check.same("do of -1", z.notesOf(0), 1);
        Check.same("the note behind it", z.noteOf(0, 0), 3);
    }

    private static void doTheMost() {
        Check.about("Terms, lighters: do 99 times, or 99 times nothing");
        Check.same("of nothing", noted("do 99()note 3;"), 3);
        LampLighters x = acting("do 99(wait 1;note 1;)");
        x.passQuarters(39);
        Check.same("of something, as long as it takes", x.notesOf(0), 38);
        LampLighters y = acting("do 3(do 9(note 1;)wait 1;)note 2;");
        y.passQuarters(4);
        Check.same("of a do", y.notesOf(0), 28);
        state("and all has ended", y, 0, 0, true);
    }

    private static void doAsItBegins() {
        Check.about("Terms, lighters: do, as often as the value is as it begins");
        LampLighters y = acting("light;do oil(wait 2;note oil;)note 50;wait 9;");
        y.passQuarters(39);
        Check.same("while the oil goes down", y.notesOf(0), 10);
        Check.same("the oil of the last one", y.noteOf(0, 1), 0);
        LampLighters x = acting("do 2(wait 1;do hour(note 1;))");
        x.passQuarters(3);
        Check.same("each time it begins", x.notesOf(0), 1 + 2);
    }

    private static void compares() {
        Check.about("Terms, lighters: a compare with < > = of less, the same and more");
        int[][] pairs = {{1, 2}, {2, 2}, {2, 1}, {0, 99}, {99, 99}, {99, 0}, {0, 0}};
        for (int[] p : pairs) {
            String name = p[0] + " and " + p[1];
            Check.same("< of " + name, noted("if " + p[0] + "<" + p[1] + "(note 1;)"), p[0] < p[1] ? 1 : 0);
            Check.same("> of " + name, noted("if " + p[0] + ">" + p[1] + "(note 1;)"), p[0] > p[1] ? 1 : 0);
            Check.same("= of " + name, noted("if " + p[0] + "=" + p[1] + "(note 1;)"), p[0] == p[1] ? 1 : 0);
        }
        Check.same("of measures",
            noted("if oil=9 and wick=10 and lit<1 and can>8 and moon=0 and hour=0 and post<1(note 1;)"), 1);
        LampLighters x = Books.begun("lamp b at 3 holds 4;round r(if oil<0 and wick<post and lit=oil and 0>lit(note 1;))", 0, 9);
        x.passQuarters(1);
        Check.same("of -1", x.notesOf(0), 1);
    }

    private static void allCompares() {
        Check.about("Terms, lighters: if, only if all compares are so");
        Check.same("all so", noted("if 1<2 and 2>1 and 3=3(note 1;)else(note 2;)"), 1);
        Check.same("the first not", noted("if 2<2 and 2>1 and 3=3(note 1;)else(note 2;)"), 2);
        Check.same("the second not", noted("if 1<2 and 2>2 and 3=3(note 1;)else(note 2;)"), 2);
        Check.same("the third not", noted("if 1<2 and 2>1 and 3=4(note 1;)else(note 2;)"), 2);
        Check.same("none", noted("if 2<1 and 1>2 and 3=4(note 1;)else(note 2;)"), 2);
        Check.same("compares of others", noted("if 1=2(note 1;)if 1=1(note 2;)if 2=1 and 1=1(note 3;)else(note 4;)"), 24);
    }

    private static void manyCompares() {
        Check.about("Terms, lighters: if, of as many compares as a book can hold");
        String start = "round r(if 1=1" + " and 1=1".repeat(95) + " and hour=0";
        LampLighters x = Books.street(start + "(note 1;))", 9);
        for (int n = 0; n < 4; n++) {
            Check.same("taught once more", Books.teach(x, start + "(note 1;))"), 0);
        }
        x.assign(0, 0);
        x.passQuarters(1);
        Check.same("97 compares that are so", x.notesOf(0), 1);
        x.assign(0, 0);
        x.passQuarters(1);
        Check.same("the last of 97 compares not", x.notesOf(0), 1);
        LampLighters y = Books.begun(start + "()else(note 2;))", 0, 9);
        y.passQuarters(1);
        Check.same("a book of 400 tokens, all so", y.notesOf(0), 0);
        y.assign(0, 0);
        y.passQuarters(1);
        Check.same("a book of 400 tokens, the last not", y.noteOf(0, 0), 2);
    }

    private static void elses() {
        Check.about("Terms, lighters: otherwise the block behind else, if there is one; then the acts behind it");
        Check.same("no else", noted("if 1=2(note 1;)note 3;"), 3);
        Check.same("an else", noted("if 1=2(note 1;)else(note 2;)note 3;"), 23);
        Check.same("not the else", noted("if 1=1(note 1;)else(note 2;)note 3;"), 13);
        Check.same("an empty one", noted("if 1=1()else(note 2;)note 3;"), 3);
        Check.same("an empty else", noted("if 1=2(note 1;)else()note 3;"), 3);
        Check.same("an else of the inner one", noted("if 1=1(if 1=2(note 1;)else(note 2;))note 3;"), 23);
        Check.same("an else of the outer one", noted("if 1=2(if 1=2(note 1;))else(note 2;)note 3;"), 23);
    }

    private static void ifAsItBegins() {
        Check.about("Terms, lighters: if, as it begins");
        LampLighters x = acting("if lit=0(wait 2;light;if lit=1(note 1;)else(note 2;))else(note 3;)note 4;wait 1;");
        x.passQuarters(1);
        x.lightLamp(0);
        x.passQuarters(2);
        Check.same("the outer one looks once", x.notesOf(0), 0);
        x.passQuarters(1);
        Check.same("the inner one looks then", x.noteOf(0, 1), 1);
        Check.same("behind both", x.noteOf(0, 0), 4);
    }

    private static void measures() {
        Check.about("Terms, lighters: measures of the lamp at the post, of the can, the moonlight, the quarter, the post");
        LampLighters x = Books.street("lamp c at 0 holds 30;lamp b at 3 holds 9;round r(go b;light;wait 2;fill 1;"
            + "note oil;note wick;note lit;note can;note moon;note hour;note post;)", 20);
        Books.passTo(x, 5);
        x.assign(0, 0);
        x.passQuarters(8);
        long[] due = {3, 7, 5, 19, 1, 9, 8};
        Check.same("notesOf", x.notesOf(0), 7);
        for (int back = 0; back < due.length; back++) {
            Check.same("measure " + back + " back", x.noteOf(0, back), due[back]);
        }
    }

    private static void measuresWithoutALamp() {
        Check.about("Terms, lighters: oil, wick, lit are -1 each without a lamp at the post");
        LampLighters x = Books.begun("lamp b at 3 holds 4;round r(note oil;note wick;note lit;wait 1;)", 0, 9);
        x.passQuarters(1);
        Check.same("notesOf", x.notesOf(0), 3);
        for (int back = 0; back < 3; back++) {
            Check.same("measure " + back + " back", x.noteOf(0, back), -1);
        }
        LampLighters y = Books.begun("round r(note oil;note wick;note lit;note can;note post;wait 1;)", 0, 9);
        y.passQuarters(1);
        long[] due = {0, 9, -1, -1, -1};
        for (int back = 0; back < 5; back++) {
            Check.same("without any lamps, " + back + " back", y.noteOf(0, back), due[back]);
        }
    }

    private static void measuresOfTheSmallestNumber() {
        Check.about("Terms, lighters: oil, wick, lit of several lamps are those of the one with the smallest number");
        LampLighters x = Books.begun("lamp z at 3 holds 8;lamp a at 0 holds 5;lamp b at 0 holds 7;"
            + "round r(wait 4;note oil;note wick;note lit;)", 0, 3);
        x.lightLamp(2);
        x.passQuarters(5);
        Check.same("oil", x.noteOf(0, 2), 5);
        Check.same("wick", x.noteOf(0, 1), 10);
        Check.same("lit", x.noteOf(0, 0), 0);
    }

    private static void nothingBehindTheEnd() {
        Check.about("Terms, lighters: as an act ends, no next one is chosen in this quarter");
        LampLighters x = acting("note 1;light;note 2;");
        x.passQuarters(1);
        Check.same("behind the quarter of light", x.notesOf(0), 1);
        state("then", x, 0, 0, false);
        x.passQuarters(1);
        Check.same("behind the next quarter", x.notesOf(0), 2);
        state("behind all", x, 0, 0, true);
    }

    private static void twentyNineAtOnce() {
        Check.about("Terms, lighters: 29 are done at once, and one that takes some quarters is begun");
        LampLighters x = acting("do 28(note 1;)wait 3;note 2;");
        x.passQuarters(1);
        Check.same("notesOf", x.notesOf(0), 28);
        state("then", x, 0, 2, false);
        x.passQuarters(3);
        Check.same("and on it goes", x.notesOf(0), 29);
    }

    private static void thirtyAtOnce() {
        Check.about("Terms, lighters: as the 30th is done at once, all that is left is given up");
        LampLighters x = acting("do 29(note 1;)wait 3;note 2;");
        x.passQuarters(1);
        Check.same("the 30th is done", x.notesOf(0), 29);
        state("then", x, 0, 0, true);
        x.passQuarters(38);
        Check.same("no more of it", x.notesOf(0), 29);
        Check.same("the round stays", x.roundOf(0), 0);
        LampLighters y = acting("do 99(note 1;)");
        y.passQuarters(1);
        Check.same("of far more", y.notesOf(0), 29);
        state("of far more", y, 0, 0, true);
    }

    private static void thirtyOfEachKind() {
        Check.about("Terms, lighters: note, walk, do, if, a go and a wait of none count as done at once");
        String[] kinds = {"go a;", "wait 0;", "wait lit;", "do 1()", "do 0(light;)", "if 1=1()", "if 1=2(light;)",
            "if 1=2(light;)else()", "walk q;", "note 1;"};
        for (String kind : kinds) {
            String rounds = LAMPS + "round q()round r(do 14(" + kind + ")";
            LampLighters x = Books.begun(rounds + "do 13(" + kind + ")wait 2;)", 1, 9);
            x.passQuarters(1);
            state("29 of " + kind, x, 0, 1, false);
            LampLighters y = Books.begun(rounds + "do 14(" + kind + ")wait 2;)", 1, 9);
            y.passQuarters(1);
            state("30 of " + kind, y, 0, 0, true);
        }
    }

    private static void thirtyAndEndsOfBlocks() {
        Check.about("Terms, lighters: ends of blocks are none of the 30");
        LampLighters x = acting("do 14(do 1(note 1;))wait 2;");
        x.passQuarters(1);
        state("29 of do and note", x, 0, 1, false);
        LampLighters y = Books.begun("round q(note 1;)round r(note 1;do 14(walk q;)wait 2;)", 1, 9);
        y.passQuarters(1);
        state("30 with ends of rounds", y, 0, 0, true);
        LampLighters z = Books.begun("round q(note 1;)round r(do 14(walk q;)wait 2;)", 1, 9);
        z.passQuarters(1);
        state("29 with ends of rounds", z, 0, 1, false);
        LampLighters v = acting("do 28(wait 0;)wait 2;");
        v.passQuarters(1);
        state("29 with repeats of a do", v, 0, 1, false);
    }

    private static void thirtiethEntersNothing() {
        Check.about("Terms, lighters: also what the 30th would lead to is given up");
        for (String last : new String[] {"do 1(light;)", "if 1=1(light;)", "if 1=2()else(light;)", "walk q;"}) {
            LampLighters x = Books.begun(LAMPS + "round q(light;)round r(do 28(note 1;)" + last + ")", 1, 9);
            x.passQuarters(2);
            Check.same("isLit behind " + last, x.isLit(0), false);
            state("behind " + last, x, 0, 0, true);
            LampLighters y = Books.begun(LAMPS + "round q(light;)round r(do 27(note 1;)" + last + ")", 1, 9);
            y.passQuarters(1);
            Check.same("isLit behind " + last + " as the 29th", y.isLit(0), true);
        }
    }

    private static void thirtyInEachQuarter() {
        Check.about("Terms, lighters: each quarter counts its 30 for itself, and each lighter");
        LampLighters x = acting("do 20(note 1;)wait 1;do 20(note 2;)wait 1;do 28(note 3;)wait 5;");
        x.passQuarters(3);
        Check.same("notesOf", x.notesOf(0), 68);
        Check.same("busyOf", x.busyOf(0), 4);
        LampLighters y = Books.street("round r(do 20(note 1;)wait 5;)", 9, 9, 9);
        for (int i = 0; i < 3; i++) {
            y.assign(i, 0);
        }
        y.passQuarters(1);
        for (int i = 0; i < 3; i++) {
            Check.same("busyOf " + i, y.busyOf(i), 4);
        }
    }

    private static void thirtyAndTheLast() {
        Check.about("Terms, lighters: the 30th as the last act of all, and 29 and then the end");
        for (int notes : new int[] {28, 29}) {
            LampLighters x = acting("do " + notes + "(note 1;)");
            x.passQuarters(1);
            Check.same("notesOf", x.notesOf(0), notes);
            state("behind " + notes, x, 0, 0, true);
            x.passQuarters(40);
            Check.same("and in the next night", x.notesOf(0), 2 * notes);
        }
    }

    private static void givenUpTillDawn() {
        Check.about("Terms, lighters: what is left is given up till the next dawn");
        LampLighters x = acting("do 50(note 1;)light;");
        x.passQuarters(39);
        Check.same("notesOf", x.notesOf(0), 29);
        Check.same("isDone", x.isDone(0), true);
        x.passQuarters(1);
        Check.same("isDone at dawn", x.isDone(0), false);
        x.passQuarters(1);
        Check.same("notesOf behind dawn", x.notesOf(0), 58);
        Check.same("isDone behind dawn", x.isDone(0), true);
    }

    private static void givenUpTillAssigned() {
        Check.about("Terms, lighters: what is left is given up till another round is assigned");
        LampLighters x = Books.begun(LAMPS + "round r(do 50(note 1;)light;)round s(light;)", 0, 9);
        x.passQuarters(3);
        x.assign(0, 1);
        Check.same("isDone", x.isDone(0), false);
        x.passQuarters(1);
        Check.same("another one", x.isLit(0), true);
        x.assign(0, 0);
        x.passQuarters(1);
        Check.same("the first one once more", x.notesOf(0), 58);
        x.assign(0, 0);
        x.passQuarters(1);
        Check.same("and the same", x.notesOf(0), 87);
    }
}
