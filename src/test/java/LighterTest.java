/** Promises 31, 32 and 35 to 38: where lighters are, what they do, and what they noted. */
public final class LighterTest {
    private static final String LAMPS = "lamp a at 0 holds 9;lamp b at 3 holds 4;lamp c at 3 holds 30;lamp d at 8 holds 1;";

    private LighterTest() {
    }

    public static void main(String[] args) {
        going();
        lightAndDouse();
        trim();
        fill();
        fillMeasures();
        waiting();
        notes();
        measures();
        compares();
        manyCompares();
        elses();
        repeating();
        walking();
        deepWalking();
        done();
        nothingAtOnce();
        thirtyAtOnce();
        thirtyByKind();
        giveUpTill();
        wrongLighters();
        Check.end();
    }

    /** A street with these lamps, and a lighter who has begun a round with these acts. */
    private static LampLighters acting(String acts) {
        return Books.begun(LAMPS + "round r(" + acts + ")", 0, 9);
    }

    private static void state(String what, LampLighters x, int place, int busy, boolean done) {
        Check.same("placeOf " + what, x.placeOf(0), place);
        Check.same("busyOf " + what, x.busyOf(0), busy);
        Check.same("isDone " + what, x.isDone(0), done);
    }

    private static void going() {
        LampLighters x = acting("go d;go b;go c;go a;");
        state("ahead of all", x, 0, 0, false);
        x.passQuarters(1);
        state("on the way", x, 0, 7, false);
        x.passQuarters(6);
        state("ahead of the end", x, 0, 1, false);
        x.passQuarters(1);
        state("at the end", x, 8, 0, false);
        x.passQuarters(1);
        state("on the way back", x, 8, 4, false);
        x.passQuarters(4);
        state("at the end of it", x, 3, 0, false);
        x.passQuarters(1);
        state("a way of no post takes none", x, 3, 2, false);
        x.passQuarters(2);
        state("home", x, 0, 0, false);
        x.passQuarters(1);
        state("behind the last one", x, 0, 0, true);
    }

    private static void lightAndDouse() {
        LampLighters x = acting("light;go b;light;light;douse;douse;go d;light;wait 2;light;");
        Check.same("light takes one", x.passQuarters(1), 3);
        Check.same("the lamp is lit", x.isLit(0), true);
        x.passQuarters(4);
        Check.same("the first of two at a post", x.isLit(1), true);
        Check.same("not the second of them", x.isLit(2), false);
        x.passQuarters(1);
        Check.same("lit once more", x.isLit(1), true);
        x.passQuarters(1);
        Check.same("doused", x.isLit(1), false);
        Check.same("another stays", x.isLit(0), true);
        x.passQuarters(1);
        Check.same("doused once more", x.isLit(1), false);
        x.passQuarters(6);
        Check.same("a small one", x.isLit(3), true);
        x.passQuarters(1);
        Check.same("it goes out", x.isLit(3), false);
        x.passQuarters(2);
        Check.same("can't be lit without oil", x.isLit(3), false);
        Check.same("the act is done all the same", x.passQuarters(1) + (x.isDone(0) ? 100 : 0), 103);
        LampLighters y = Books.begun("lamp b at 3 holds 4;round r(light;trim;fill 3;douse;)", 0, 9);
        y.passQuarters(5);
        state("without a lamp acts take as long", y, 0, 0, false);
        y.passQuarters(1);
        state("and end", y, 0, 0, true);
        Check.same("nothing happens", y.canOf(0), 9);
        Check.same("to no other lamp", y.isLit(0), false);
    }

    private static void trim() {
        LampLighters x = acting("light;wait 11;trim;note wick;");
        x.passQuarters(12);
        Check.same("the wick ahead of it", x.wickOf(0), 7);
        x.passQuarters(1);
        Check.same("trim takes two", x.wickOf(0), 7);
        Check.same("busyOf then", x.busyOf(0), 1);
        x.passQuarters(1);
        Check.same("the wick is whole", x.wickOf(0), 10);
        Check.same("of that lamp alone", x.wickOf(1), 10);
        x.passQuarters(1);
        Check.same("the note of it", x.noteOf(0, 0), 10);
    }

    private static void fill() {
        LampLighters x = Books.street(LAMPS + "round r(light;)round s(fill 3;)round t(fill 0;)round u(fill 99;)", 5);
        x.assign(0, 0);
        x.passQuarters(16);
        Check.same("the oil ahead of it", x.oilOf(0), 1);
        x.douseLamp(0);
        x.assign(0, 1);
        x.passQuarters(1);
        Check.same("as much as the value", x.oilOf(0), 4);
        Check.same("from the can", x.canOf(0), 2);
        x.assign(0, 2);
        x.passQuarters(1);
        Check.same("none", x.oilOf(0), 4);
        x.assign(0, 3);
        x.passQuarters(1);
        Check.same("no more than the can has", x.oilOf(0), 6);
        Check.same("an empty can", x.canOf(0), 0);
        x.passQuarters(1);
        state("behind it", x, 0, 0, true);
        LampLighters y = Books.street(LAMPS + "round r(fill 9;)", 5);
        y.lightLamp(0);
        y.passQuarters(6);
        y.douseLamp(0);
        y.assign(0, 0);
        y.passQuarters(1);
        Check.same("no more than it has room for", y.oilOf(0), 9);
        Check.same("the rest stays in the can", y.canOf(0), 2);
        y.assign(0, 0);
        y.passQuarters(1);
        Check.same("no room", y.canOf(0), 2);
        Check.same("fill is no burning", y.oilBurnt(), 3);
        y.passNights(1);
        Check.same("a full can at dawn", y.canOf(0), 5);
    }

    private static void fillMeasures() {
        LampLighters x = Books.street("lamp a at 1 holds 30;round r(go a;fill hour;wait 1;fill oil;fill can;)", 60);
        x.lightLamp(0);
        x.passQuarters(40);
        x.assign(0, 0);
        Check.same("the oil ahead", x.oilOf(0), 10);
        x.passQuarters(2);
        Check.same("the hour is 1", x.oilOf(0), 11);
        x.passQuarters(2);
        Check.same("twice the oil", x.oilOf(0), 22);
        Check.same("the can then", x.canOf(0), 48);
        x.passQuarters(1);
        Check.same("all of the can, but no more than room", x.oilOf(0), 30);
        Check.same("the can behind it", x.canOf(0), 40);
        LampLighters y = Books.begun("lamp a at 1 holds 9;round r(fill oil;go a;wait 20;fill oil;)", 0, 60);
        y.passQuarters(1);
        Check.same("no lamp, no oil", y.canOf(0), 60);
        y.lightLamp(0);
        y.passQuarters(21);
        Check.same("no oil, nothing of it", y.canOf(0), 60);
    }

    private static void waiting() {
        LampLighters x = acting("wait 3;wait 0;wait 1;note hour;wait hour;note hour;wait 99;");
        x.passQuarters(1);
        Check.same("wait 3", x.busyOf(0), 2);
        x.passQuarters(2);
        Check.same("it ends", x.busyOf(0), 0);
        x.passQuarters(1);
        Check.same("wait 0 takes none, wait 1 one", x.notesOf(0), 0);
        x.passQuarters(1);
        Check.same("a note at once", x.noteOf(0, 0), 4);
        Check.same("wait hour, as it begins", x.busyOf(0), 3);
        x.passQuarters(4);
        Check.same("noted behind it", x.noteOf(0, 0), 8);
        Check.same("wait 99", x.busyOf(0), 98);
        x.passQuarters(30);
        Check.same("wait 99 goes on", x.busyOf(0), 68);
        x.passQuarters(1);
        Check.same("till dawn", x.busyOf(0), 0);
        LampLighters y = Books.begun("lamp b at 3 holds 4;round r(wait oil;wait wick;wait lit;note 1;wait 1;)", 0, 9);
        y.passQuarters(1);
        Check.same("a wait of less than none", y.notesOf(0), 1);
    }

    private static void notes() {
        LampLighters x = acting("note 1;note 2;wait 1;do 19(note hour;)wait 1;note 77;");
        Check.refuses("noteOf of none", x, IndexOutOfBoundsException.class, () -> x.noteOf(0, 0));
        x.passQuarters(1);
        Check.same("two notes", x.notesOf(0), 2);
        Check.same("the latest", x.noteOf(0, 0), 2);
        Check.same("that ahead", x.noteOf(0, 1), 1);
        Check.refuses("noteOf 2 of 2", x, IndexOutOfBoundsException.class, () -> x.noteOf(0, 2));
        Check.refuses("noteOf -1", x, IndexOutOfBoundsException.class, () -> x.noteOf(0, -1));
        x.passQuarters(1);
        Check.same("21 notes", x.notesOf(0), 21);
        Check.same("the 20th", x.noteOf(0, 19), 2);
        Check.same("the 19th", x.noteOf(0, 18), 1);
        Check.refuses("noteOf 20 of 21", x, IndexOutOfBoundsException.class, () -> x.noteOf(0, 20));
        x.passQuarters(1);
        Check.same("22 notes", x.notesOf(0), 22);
        Check.same("the latest then", x.noteOf(0, 0), 77);
        Check.same("the 20th then", x.noteOf(0, 19), 1);
        Check.refuses("noteOf max", x, IndexOutOfBoundsException.class, () -> x.noteOf(0, Integer.MAX_VALUE));
        Check.refuses("noteOf min", x, IndexOutOfBoundsException.class, () -> x.noteOf(0, Integer.MIN_VALUE));
        Check.refuses("noteOf of no lighter", x, IndexOutOfBoundsException.class, () -> x.noteOf(1, 0));
        x.assign(0, 0);
        Check.same("notes stay with another round", x.notesOf(0), 22);
        x.passNights(5);
        Check.same("notes of all nights", x.notesOf(0), 22 + 22 * 5 + 22);
        Check.same("the latest of all nights", x.noteOf(0, 0), 77);
    }

    private static void measures() {
        String all = "note oil;note wick;note lit;note can;note moon;note hour;note post;";
        LampLighters x = Books.begun("lamp b at 3 holds 4;lamp c at 3 holds 30;round r(" + all + "wait 1;go b;light;wait 3;fill 1;"
            + all + "wait 1;)", 0, 9);
        x.passNights(5);
        x.passNights(2);
        x.passQuarters(1);
        long[] first = {0, 0, 7, 9, -1, -1, -1};
        for (int i = 0; i < 7; i++) {
            Check.same("measure without a lamp, " + i + " back", x.noteOf(0, i), first[i]);
        }
        x.passQuarters(3);
        x.trimLamp(0);
        x.fillLamp(0, 30);
        x.passQuarters(6);
        Check.same("all noted", x.notesOf(0), 14 * 8);
        int hour = x.quarter() - 1;
        long[] then = {3, hour, 7, 8, 1, x.wickOf(0), x.oilOf(0)};
        for (int i = 0; i < 5; i++) {
            Check.same("measure with a lamp, " + i + " back", x.noteOf(0, i), then[i]);
        }
        Check.same("the wick", x.noteOf(0, 5), 9);
        Check.same("the oil", x.noteOf(0, 6) >= 3, true);
        LampLighters y = Books.begun("lamp a at 0 holds 5;lamp b at 0 holds 7;round r(note oil;note lit;)", 0, 3);
        y.lightLamp(1);
        y.passQuarters(1);
        Check.same("of several the smallest number", y.noteOf(0, 1), 5);
        Check.same("not lit, as this one isn't", y.noteOf(0, 0), 0);
    }

    private static int noted(String acts) {
        LampLighters x = acting(acts + "wait 1;");
        x.passQuarters(1);
        int all = 0;
        for (int back = x.notesOf(0) - 1; back >= 0; back--) {
            all = all * 10 + x.noteOf(0, back);
        }
        return all;
    }

    private static void compares() {
        int[][] pairs = {{1, 2}, {2, 2}, {2, 1}};
        for (int[] p : pairs) {
            String name = p[0] + " and " + p[1];
            Check.same("< of " + name, noted("if " + p[0] + "<" + p[1] + "(note 1;)"), p[0] < p[1] ? 1 : 0);
            Check.same("> of " + name, noted("if " + p[0] + ">" + p[1] + "(note 1;)"), p[0] > p[1] ? 1 : 0);
            Check.same("= of " + name, noted("if " + p[0] + "=" + p[1] + "(note 1;)"), p[0] == p[1] ? 1 : 0);
        }
        Check.same("all so", noted("if 1<2 and 2>1 and 3=3(note 1;)else(note 2;)"), 1);
        Check.same("the first not", noted("if 2<2 and 2>1 and 3=3(note 1;)else(note 2;)"), 2);
        Check.same("the second not", noted("if 1<2 and 2>2 and 3=3(note 1;)else(note 2;)"), 2);
        Check.same("the third not", noted("if 1<2 and 2>1 and 3=4(note 1;)else(note 2;)"), 2);
        Check.same("measures", noted("if oil=9 and wick=10 and lit<1 and can>8 and moon=0 and hour=0 and post<1(note 1;)"),
            1);
        Check.same("compares of others", noted("if 1=2(note 1;)if 1=1(note 2;)if 2=1 and 1=1(note 3;)else(note 4;)"), 24);
    }

    private static void manyCompares() {
        StringBuilder most = new StringBuilder("round r(if 1=1");
        for (int i = 0; i < 93; i++) {
            most.append(" and 1=1");
        }
        String text = most + " and hour=0(note 1;)else(note 2;)wait 1;)";
        LampLighters x = Books.street(text, 9);
        for (int n = 0; n < 4; n++) {
            Check.same("taught once more", Books.teach(x, text), 0);
        }
        x.assign(0, 0);
        x.passQuarters(1);
        Check.same("95 compares that are so", x.noteOf(0, 0), 1);
        x.assign(0, 0);
        x.passQuarters(1);
        Check.same("the last of 95 compares not", x.noteOf(0, 0), 2);
    }

    private static void elses() {
        Check.same("no else", noted("if 1=2(note 1;)note 3;"), 3);
        Check.same("an else", noted("if 1=2(note 1;)else(note 2;)note 3;"), 23);
        Check.same("not the else", noted("if 1=1(note 1;)else(note 2;)note 3;"), 13);
        Check.same("an empty one", noted("if 1=1()else(note 2;)note 3;"), 3);
        Check.same("an empty else", noted("if 1=2(note 1;)else()note 3;"), 3);
        Check.same("an else of the inner one", noted("if 1=1(if 1=2(note 1;)else(note 2;))note 3;"), 23);
        Check.same("an else of the outer one", noted("if 1=2(if 1=2(note 1;))else(note 2;)note 3;"), 23);
        LampLighters x = acting("if lit=0(wait 2;light;if lit=1(note 1;)else(note 2;))else(note 3;)note 4;wait 1;");
        x.passQuarters(1);
        x.lightLamp(0);
        x.passQuarters(2);
        Check.same("as it begins", x.notesOf(0), 0);
        x.passQuarters(1);
        Check.same("the inner one looks then", x.noteOf(0, 1), 1);
        Check.same("behind both", x.noteOf(0, 0), 4);
    }

    private static void repeating() {
        Check.same("do 3", noted("do 3(note 1;note 2;)note 3;"), 1212123);
        Check.same("do 1", noted("do 1(note 1;)note 3;"), 13);
        Check.same("do 0", noted("do 0(note 1;)note 3;"), 3);
        Check.same("do in a do", noted("do 2(do 2(note 1;)note 2;)note 3;"), 1121123);
        Check.same("do of nothing", noted("do 99()note 3;"), 3);
        Check.same("do of a measure", noted("do wick(do lit(note 7;))do hour(note 2;)note 3;"), 3);
        LampLighters x = acting("do can(note can;go b;if lit=0(light;)else(douse;)go a;)");
        x.passQuarters(39);
        Check.same("as often as the can", x.notesOf(0), 6);
        LampLighters y = acting("light;do oil(wait 2;note oil;)note 50;wait 9;");
        y.passQuarters(39);
        Check.same("as often as the oil, as it begins", y.notesOf(0), 10);
        Check.same("while the oil goes down", y.noteOf(0, 1), 0);
        LampLighters z = Books.begun("lamp b at 3 holds 4;round r(do oil(note 1;)do lit(note 2;)note 3;wait 1;)", 0, 9);
        z.passQuarters(1);
        Check.same("less than once is not at all", z.notesOf(0), 1);
    }

    private static void walking() {
        String rounds = "round p(note 1;wait 1;note 2;)round q()round r(walk p;note 3;walk q;note 4;do 2(walk p;)wait 9;)";
        LampLighters x = Books.begun(LAMPS + rounds, 2, 9);
        x.passQuarters(1);
        Check.same("in the other round", x.noteOf(0, 0), 1);
        Check.same("the round stays", x.roundOf(0), 2);
        x.passQuarters(1);
        long[] due = {1, 4, 3, 2, 1};
        Check.same("notes of it", x.notesOf(0), 5);
        for (int i = 0; i < due.length; i++) {
            Check.same("note " + i + " back", x.noteOf(0, i), due[i]);
        }
        x.passQuarters(2);
        Check.same("walked twice more", x.notesOf(0), 8);
        Check.same("the last act", x.busyOf(0), 8);
    }

    /** Every round walks the one ahead of it from its innermost block. */
    private static void deepWalking() {
        StringBuilder text = new StringBuilder();
        for (int i = 0; i < 6; i++) {
            char name = (char) ('p' + i);
            text.append("round ").append(name).append("(do 1(do 2(do 1(do 1(do 1(");
            text.append(i == 0 ? "note 7;wait 1;" : "walk " + (char) (name - 1) + ";").append(")))))");
            text.append("note ").append(i).append(";)");
        }
        LampLighters x = Books.begun(text.toString(), 5, 9);
        x.passQuarters(1);
        state("thirty acts on the way down", x, 0, 0, true);
        LampLighters y = Books.begun(text.toString(), 3, 9);
        y.passQuarters(1);
        Check.same("at the bottom", y.noteOf(0, 0), 7);
        y.passQuarters(31);
        // each of 16 quarters has a note of its own, and each end of a round has one more
        state("behind all", y, 0, 0, true);
        Check.same("all notes", y.notesOf(0), 16 + 8 + 4 + 2 + 1);
        Check.same("the last one", y.noteOf(0, 0), 3);
        Check.same("the one ahead of it", y.noteOf(0, 1), 2);
    }

    private static void done() {
        LampLighters none = Books.street(LAMPS, 9);
        Check.same("without a round", none.isDone(0), true);
        Check.same("a round without acts", acting("").isDone(0), true);
        LampLighters x = acting("light;");
        Check.same("ahead of it", x.isDone(0), false);
        x.passQuarters(1);
        Check.same("the act has ended, the block hasn't", x.isDone(0), false);
        x.passQuarters(1);
        Check.same("the block has ended", x.isDone(0), true);
        x.passQuarters(37);
        Check.same("till dawn", x.isDone(0), true);
        x.passQuarters(1);
        Check.same("at dawn", x.isDone(0), false);
        LampLighters y = acting("note 1;do 5()if 1=1()");
        Check.same("nothing but what is done at once, ahead", y.isDone(0), false);
        y.passQuarters(1);
        Check.same("nothing but what is done at once", y.isDone(0), true);
        LampLighters z = acting("wait 5;");
        z.passQuarters(3);
        Check.same("an act is begun", z.isDone(0), false);
    }

    private static void nothingAtOnce() {
        LampLighters x = acting("note 1;light;note 2;");
        x.passQuarters(1);
        Check.same("nothing behind an act that ends", x.notesOf(0), 1);
        x.passQuarters(1);
        Check.same("but in the next quarter", x.notesOf(0), 2);
    }

    private static void thirtyAtOnce() {
        LampLighters x = acting("do 28(note 1;)wait 3;note 2;");
        x.passQuarters(1);
        Check.same("29 at once", x.notesOf(0), 28);
        state("29 at once, and one more begins", x, 0, 2, false);
        LampLighters y = acting("do 29(note 1;)wait 3;note 2;");
        y.passQuarters(1);
        Check.same("30 at once", y.notesOf(0), 29);
        state("30 at once", y, 0, 0, true);
        y.passQuarters(38);
        Check.same("no more of it", y.notesOf(0), 29);
        Check.same("the round stays", y.roundOf(0), 0);
        LampLighters z = acting("do 99(note 1;)");
        z.passQuarters(1);
        Check.same("far more", z.notesOf(0), 29);
        state("far more", z, 0, 0, true);
        LampLighters v = acting("do 20(note 1;)wait 1;do 20(note 2;)wait 1;do 28(note 3;)wait 5;");
        v.passQuarters(3);
        Check.same("each quarter counts for itself", v.notesOf(0), 68);
        Check.same("and goes on", v.busyOf(0), 4);
    }

    private static void thirtyByKind() {
        String[] kinds = {"go a;", "wait 0;", "do 1()", "do 0(light;)", "if 1=1()", "if 1=2(light;)", "walk q;", "note 1;"};
        for (String kind : kinds) {
            String rounds = LAMPS + "round q()round r(do 14(" + kind + ")";
            LampLighters x = Books.begun(rounds + "do 13(" + kind + ")wait 2;)", 1, 9);
            x.passQuarters(1);
            state("29 of " + kind, x, 0, 1, false);
            LampLighters y = Books.begun(rounds + "do 14(" + kind + ")wait 2;)", 1, 9);
            y.passQuarters(1);
            state("30 of " + kind, y, 0, 0, true);
        }
        LampLighters x = acting("do 14(do 1(note 1;))wait 2;");
        x.passQuarters(1);
        state("29 of do and note: ends of blocks are none", x, 0, 1, false);
        LampLighters y = acting("do 28(note 1;)do 1(light;)");
        y.passQuarters(2);
        Check.same("the thirtieth is a do", y.isLit(0), false);
        state("the thirtieth is a do", y, 0, 0, true);
    }

    private static void giveUpTill() {
        LampLighters x = Books.begun(LAMPS + "round r(do 50(note 1;)light;)round s(light;)", 0, 9);
        x.passQuarters(3);
        Check.same("given up", x.notesOf(0), 29);
        x.assign(0, 0);
        x.passQuarters(1);
        Check.same("till a round is assigned", x.notesOf(0), 58);
        x.assign(0, 1);
        x.passQuarters(1);
        Check.same("or another one", x.isLit(0), true);
        x.assign(0, 0);
        x.passQuarters(35);
        Check.same("at dawn", x.isDone(0), false);
        x.passQuarters(1);
        Check.same("till the next dawn", x.notesOf(0), 58 + 29 + 29);
    }

    private static void wrongLighters() {
        LampLighters x = acting("note 1;");
        x.passQuarters(1);
        for (int lighter : new int[] {-1, 1, 3, Integer.MAX_VALUE, Integer.MIN_VALUE}) {
            Check.refuses("placeOf", x, IndexOutOfBoundsException.class, () -> x.placeOf(lighter));
            Check.refuses("canOf", x, IndexOutOfBoundsException.class, () -> x.canOf(lighter));
            Check.refuses("isDone", x, IndexOutOfBoundsException.class, () -> x.isDone(lighter));
            Check.refuses("busyOf", x, IndexOutOfBoundsException.class, () -> x.busyOf(lighter));
            Check.refuses("notesOf", x, IndexOutOfBoundsException.class, () -> x.notesOf(lighter));
            Check.refuses("noteOf", x, IndexOutOfBoundsException.class, () -> x.noteOf(lighter, 0));
        }
    }
}
