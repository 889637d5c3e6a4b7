/** Promises 1 to 5 and 15 to 17: a new object, the tape, reading it, its errors, and what the book has. */
public final class BookTest {
    private static final String LAMPS = "lamp a at 1 holds 2;lamp b at 3 holds 4;";

    private BookTest() {
    }

    public static void main(String[] args) {
        newObject();
        feed();
        trim();
        readme();
        rightBooks();
        tokens();
        grammar();
        tokenCount();
        depth();
        names();
        targets();
        limits();
        numbers();
        orderOfErrors();
        failedTeach();
        goodTeach();
        Check.end();
    }

    private static void error(String text, int error, int position) {
        LampLighters x = new LampLighters();
        Check.same("teach of " + shown(text), Books.teach(x, text), error);
        Check.same("errorAt of " + shown(text), x.errorAt(), position);
    }

    private static void right(String text, int lamps, int rounds, int acts) {
        LampLighters x = new LampLighters();
        String shown = shown(text);
        Check.same("teach of " + shown, Books.teach(x, text), 0);
        Check.same("errorAt of " + shown, x.errorAt(), -1);
        Check.same("lamps of " + shown, x.lamps(), lamps);
        Check.same("rounds of " + shown, x.rounds(), rounds);
        Check.same("acts of " + shown, x.acts(), acts);
    }

    private static String shown(String text) {
        return text.length() > 90 ? text.substring(0, 40) + " .. " + text.substring(text.length() - 40) : text;
    }

    private static String times(String text, int count) {
        StringBuilder all = new StringBuilder();
        for (int i = 0; i < count; i++) {
            all.append(text);
        }
        return all.toString();
    }

    private static void newObject() {
        LampLighters x = new LampLighters();
        Check.same("new lamps", x.lamps(), 0);
        Check.same("new rounds", x.rounds(), 0);
        Check.same("new acts", x.acts(), 0);
        Check.same("new lighters", x.lighters(), 0);
        Check.same("new night", x.night(), 0);
        Check.same("new quarter", x.quarter(), 0);
        Check.same("new errorAt", x.errorAt(), -1);
        Check.same("new oilBurnt", x.oilBurnt(), 0);
        Check.same("new litLamps", x.litLamps(), 0);
        Check.same("new isOff", x.isOff(), false);
        Check.same("new setClouds", x.setClouds(true), false);
        Check.same("new trim", x.trim(0), 0);
        Check.same("new passNights", x.passNights(1), 0);
        LampLighters other = new LampLighters();
        Check.same("another one is on its own", other.night(), 0);
    }

    private static void feed() {
        LampLighters x = new LampLighters();
        for (int n = 1; n <= 80; n++) {
            Check.same("feed " + n, x.feed(0x20202020, 0x20202020, 0x0a0a0a0a, 0x20202020, 0x20202020), 20 * n);
        }
        Check.refuses("feed at 1600", x, IllegalStateException.class, () -> x.feed(0, 0, 0, 0, 0));
        Check.same("trim 1581", x.trim(1581), 1581);
        Check.refuses("feed at 1581", x, IllegalStateException.class, () -> x.feed(0, 0, 0, 0, 0));
        Check.same("trim behind a refused feed", x.trim(1581), 1581);
        x.trim(1580);
        Check.same("feed at 1580", x.feed(0x20202020, 0x20202020, 0x20202020, 0x20202020, 0x6c616d70), 1600);
        Check.same("teach of a full tape", x.teach(), 1);
        Check.same("the position of the end", x.errorAt(), 1600);
        LampLighters y = new LampLighters();
        y.feed(0x6c616d70, 0x20612061, 0x74203220, 0x686f6c64, 0x73203981);
        Check.same("a byte above 127", y.teach(), 1);
        Check.same("the position of that byte", y.errorAt(), 19);
    }

    private static void trim() {
        LampLighters x = new LampLighters();
        Check.refuses("trim(1) of nothing", x, IllegalArgumentException.class, () -> x.trim(1));
        Check.refuses("trim(-1) of nothing", x, IllegalArgumentException.class, () -> x.trim(-1));
        Books.feed(x, "round r()lamp");
        Check.refuses("trim(14) of 13", x, IllegalArgumentException.class, () -> x.trim(14));
        Check.refuses("trim(min)", x, IllegalArgumentException.class, () -> x.trim(Integer.MIN_VALUE));
        Check.refuses("trim(max)", x, IllegalArgumentException.class, () -> x.trim(Integer.MAX_VALUE));
        Check.same("trim(13) of 13", x.trim(13), 13);
        Check.same("trim(9) of 13", x.trim(9), 9);
        Check.same("feed goes on behind it", x.feed(0x20202020, 0x20202020, 0x20202020, 0x20202020, 0x20202020), 29);
        Check.same("teach of what is kept", x.teach(), 0);
        Check.same("rounds of what is kept", x.rounds(), 1);
        Check.same("the tape behind teach is empty", x.trim(0), 0);
        Check.refuses("the tape behind teach", x, IllegalArgumentException.class, () -> x.trim(1));
    }

    private static void readme() {
        LampLighters street = new LampLighters();
        street.hire(10);
        street.feed(0x6c616d70, 0x20612061, 0x74203220, 0x686f6c64, 0x7320393b);
        street.feed(0x20726f75, 0x6e642072, 0x28676f20, 0x613b206c, 0x69676874);
        street.feed(0x3b292020, 0x20202020, 0x20202020, 0x20202020, 0x20202020);
        street.trim(42);
        Check.same("README: teach", street.teach(), 0);
        street.assign(0, 0);
        Check.same("README: passQuarters", street.passQuarters(3), 2);
        Check.same("README: isLit", street.isLit(0), true);
    }

    private static void rightBooks() {
        right("", 0, 0, 0);
        right(" \n ", 0, 0, 0);
        right(LAMPS, 2, 0, 0);
        right("round r()", 0, 1, 0);
        right(LAMPS + "round r(light;douse;trim;fill 1;wait oil;note 99;go b;do 0(do 1()))round s(walk r;)", 2, 2, 10);
        right("round r(if oil<wick(light;)else(douse;if 1=1()))", 0, 1, 4);
        right("round r(if lit>can and moon=hour and post<000(trim;trim;))", 0, 1, 3);
        right("round r(if 0=0()if 0=0()else()light;)", 0, 1, 3);
        right(" lamp\na\nat\n029\nholds\n030\n;\nround b (\n)\n", 1, 1, 0);
        right("lamp a at0holds1;lamp b at 029holds 030 ;", 2, 0, 0);
        right("lamp abcdefgh at 0 holds 1;round lamps(go abcdefgh;)", 1, 1, 1);
        right("lamp lampe at 0 holds 1;lamp o at 0 holds 1;lamp doo at 0 holds 1;", 3, 0, 0);
    }

    private static void tokens() {
        error("lamp abcdefghi at 0 holds 1;", 1, 5);
        error("lamp a at 0000 holds 1;", 1, 10);
        error("lamp a at 0 holds 1;lampround", 1, 20);
        error("Lamp a at 0 holds 1;", 1, 0);
        error("lamp A at 0 holds 1;", 1, 5);
        error("lamp\ta at 0 holds 1;", 1, 4);
        error("lamp a at 0 holds 1;\r", 1, 20);
        error("lamp a at 0 holds 1,", 1, 19);
        error("lamp a at 0 holds -1;", 1, 18);
        error("lamp a at 0 holds 1;\u00e9", 1, 20);
        error("lamp a at 0 holds 1;{", 1, 20);
        error("lamp a at 0 holds 1;`", 1, 20);
        error("lamp a at 0 holds 1;/", 1, 20);
        error("lamp a at 0 holds 1;:", 1, 20);
        error("lampa at 0 holds 1;", 1, 0);
        error("lamp aat 0 holds 1;", 1, 9);
        error("lamp a at 0 holds 1;\u0000", 1, 20);
        error("lamp a at 0 holds 1;\u00ff", 1, 20);
        error("abcdefghi", 1, 0);
    }

    private static void grammar() {
        error("at", 1, 0);
        error("lamp", 1, 4);
        error("lamp  ", 1, 6);
        error("lamp 1", 1, 5);
        error("lamp a 1", 1, 7);
        error("lamp a at b", 1, 10);
        error("lamp a at oil", 1, 10);
        error("lamp a at 1 2", 1, 12);
        error("lamp a at 1 holds x", 1, 18);
        error("lamp a at 1 holds 2 lamp", 1, 20);
        error(LAMPS + "round r()lamp c at 1 holds 1;", 1, 49);
        error(LAMPS + ";", 1, 40);
        error("round r", 1, 7);
        error("round r;", 1, 7);
        error("round (", 1, 6);
        error("round r(", 1, 8);
        error("round r(a", 1, 8);
        error("round r(5", 1, 8);
        error("round r(light)", 1, 13);
        error("round r(light;", 1, 14);
        error("round r(douse 1;)", 1, 14);
        error("round r(trim", 1, 12);
        error("round r(fill;)", 1, 12);
        error("round r(fill a;)", 1, 13);
        error("round r(fill and;)", 1, 13);
        error("round r(fill 1)", 1, 14);
        error("round r(wait;)", 1, 12);
        error("round r(wait 1 1;)", 1, 15);
        error("round r(note (", 1, 13);
        error("round r(go 1;)", 1, 11);
        error("round r(go light;)", 1, 11);
        error("round r(go a)", 1, 12);
        error("round r(walk;)", 1, 12);
        error("round r(walk r(", 1, 14);
        error("round r(do()", 1, 10);
        error("round r(do 1;)", 1, 12);
        error("round r(do 1 light;)", 1, 13);
        error("round r(if (", 1, 11);
        error("round r(if 1(", 1, 12);
        error("round r(if 1<(", 1, 13);
        error("round r(if 1<<2()", 1, 13);
        error("round r(if 1<2;", 1, 14);
        error("round r(if 1<2 and ()", 1, 19);
        error("round r(if 1<2 1<2()", 1, 15);
        error("round r(if 1<2()else;)", 1, 20);
        error("round r(if 1<2()else()else())", 1, 22);
        error("round r(else())", 1, 8);
        error("round r(light;else())", 1, 14);
        error("round r(do 1()else())", 1, 14);
        error("round r(and", 1, 8);
        error("round r(oil;)", 1, 8);
        error("round r())", 1, 9);
        error("round r()()", 1, 9);
        String words = "lamp at holds round light douse trim fill wait note go walk do if and else oil wick lit can moon "
            + "hour post";
        for (String word : words.split(" ")) {
            error("lamp " + word + " at 0 holds 1;", 1, 5);
            error("round " + word + "()", 1, 6);
            error("round r(go " + word + ";)", 1, 11);
        }
        String acts = " light douse trim fill wait note go walk do if ";
        for (String word : words.split(" ")) {
            if (!acts.contains(" " + word + " ")) {
                error("round r(" + word + " ", 1, 8);
            }
        }
    }

    /** A round that begins with an if, of ten tokens and four for each and, up to the sign ) of its block. */
    private static String ifs(int ands) {
        return "round r(if 1=1" + times(" and 1=1", ands) + "()";
    }

    private static void tokenCount() {
        String full = ifs(97) + "trim;)";
        right(full, 0, 1, 2);
        right(full + " \n", 0, 1, 2);
        error(full + " round", 1, full.length() + 1);
        error(full + "round s()", 1, full.length());
        error(full + " \n(", 1, full.length() + 2);
        String over = ifs(97) + "note 1;)";
        error(over, 1, over.length() - 1);
        error(over + " ", 1, over.length() - 1);
        error(ifs(97) + "fill 100;)", 1, ifs(97).length() + 9);
        right(ifs(96) + "trim;do 1())", 0, 1, 3);
        String less = ifs(96) + "trim;note 1;)";
        right(less + "\n", 0, 1, 3);
        error(less + "round", 1, less.length() + 5);
        error(less + "round s", 1, less.length() + 6);
    }

    private static void depth() {
        right("round r(do 1(do 1(do 1(do 1(do 1())))))", 0, 1, 5);
        error("round r(do 1(do 1(do 1(do 1(do 1(do 1())))))", 1, 37);
        right("round r(if 1=1(do 1(if 1=1()else(do 1(do 1())))))", 0, 1, 5);
        error("round r(do 1(do 1(do 1(do 1(if 1=1()else(if 1=1(", 1, 47);
        right("round r(do 1(do 1(do 1(do 1(do 1(light;)do 2()))))do 1(do 1(do 1(do 1(do 1())))))", 0, 1, 12);
    }

    private static void names() {
        error("lamp a at 1 holds 2;lamp a at 3 holds 4;", 2, 25);
        error("lamp a at 1 holds 2;round a()", 2, 26);
        error("round a()round a()", 2, 15);
        error("round a()round b()round a()", 2, 24);
        right("lamp a at 1 holds 2;lamp aa at 3 holds 4;round ab()", 2, 1, 0);
        right("lamp aaaaaaaa at 1 holds 2;lamp aaaaaaab at 3 holds 4;lamp zzzzzzzz at 1 holds 1;", 3, 0, 0);
        error("lamp aaaaaaaa at 1 holds 2;lamp aaaaaaaa at 3 holds 4;", 2, 32);
    }

    private static void targets() {
        error(LAMPS + "round r(go c;)", 3, 51);
        error(LAMPS + "round r(go r;)", 3, 51);
        error(LAMPS + "round r(walk r;)", 3, 53);
        error(LAMPS + "round r(walk a;)", 3, 53);
        error(LAMPS + "round r(walk s;)round s()", 3, 53);
        error(LAMPS + "round r()round s(go r;)", 3, 60);
        right(LAMPS + "round r()round s(walk r;)round t(walk s;walk r;go a;)", 2, 3, 4);
        LampLighters x = Books.begun(LAMPS + "round r(go b;)", 0, 9);
        x.passQuarters(3);
        Check.same("go of the second lamp", x.placeOf(0), 3);
    }

    private static void limits() {
        StringBuilder lamps = new StringBuilder();
        for (int i = 0; i < 10; i++) {
            lamps.append("lamp ").append((char) ('a' + i)).append(" at 1 holds 2;");
        }
        right(lamps.toString(), 10, 0, 0);
        error(lamps + "lamp k at 1 holds 2;", 4, 205);
        error(lamps + "lamp k at 1 holds 2;lamp k at 1 holds 2;", 4, 205);
        error(lamps + "lamp a at 1 holds 2;", 2, 205);
        error(lamps + "lamp k at 1 holds 2;round r(go k;)", 4, 205);
        String rounds = "round a()round b()round c()round d()round e()round f()";
        right(rounds, 0, 6, 0);
        error(rounds + "round g()", 4, 60);
        error(rounds + "round f()", 2, 60);
        error(rounds + "round g(walk g;)", 4, 60);
        right(lamps + "round k()round l()round m()round n()round o()round p(walk o;)", 10, 6, 1);
        String acts = times("trim;", 80);
        right("round r(" + acts + ")", 0, 1, 80);
        error("round r(" + acts + "trim;)", 4, 408);
        error("round r(" + acts + "go a;)", 4, 408);
        error("round r(" + acts + "fill 100;)", 4, 408);
        error("round r(" + times("trim;", 78) + "do 1(trim;trim;))", 4, 408);
        right("round r(" + times("trim;", 78) + "do 1(trim;))", 0, 1, 80);
        error("round r(" + times("trim;", 60) + ")round s(" + times("trim;", 21) + ")", 4, 417);
    }

    private static void numbers() {
        error("lamp a at 30 holds 1;", 5, 10);
        error("lamp a at 999 holds 1;", 5, 10);
        error("lamp a at 29 holds 0;", 5, 19);
        error("lamp a at 29 holds 31;", 5, 19);
        right("lamp a at 29 holds 30;lamp b at 0 holds 1;", 2, 0, 0);
        error("round r(fill 100;)", 5, 13);
        error("round r(wait 100;)", 5, 13);
        error("round r(note 999;)", 5, 13);
        error("round r(do 100())", 5, 11);
        error("round r(if 100<oil())", 5, 11);
        error("round r(if oil<100())", 5, 15);
        error("round r(if 1<1 and 100=1())", 5, 19);
        right("round r(fill 99;wait 0;do 99()if 99<0 and 0>99())", 0, 1, 4);
        LampLighters x = Books.begun("lamp a at 7 holds 19;round r(note 99;note 0;note 042;)", 0, 9);
        x.passQuarters(1);
        Check.same("post of the book", x.postOf(0), 7);
        Check.same("room of the book", x.roomOf(0), 19);
        Check.same("note 042", x.noteOf(0, 0), 42);
        Check.same("note 0", x.noteOf(0, 1), 0);
        Check.same("note 99", x.noteOf(0, 2), 99);
    }

    private static void orderOfErrors() {
        error("lamp a at 30 holds 0;lamp a at 1 holds 1;round r(go x;", 1, 54);
        error("lamp a at 30 holds 1;lamp a at 1 holds 1;", 5, 10);
        error("lamp a at 3 holds 1;lamp a at 99 holds 99;", 2, 25);
        error("round r(go x;fill 100;)", 3, 11);
        error("round r(fill 100;go x;)", 5, 13);
        error("round r(fill 100;)round r()", 5, 13);
        error("round r(walk x;)round r()", 3, 13);
    }

    private static void failedTeach() {
        LampLighters x = Books.begun(LAMPS + "round r(note 5;go b;light;wait 50;)", 0, 9);
        x.setClouds(true);
        x.passQuarters(5);
        long before = x.digest();
        for (String bad : new String[] {"lamp c at 5 holds 5;x", "lamp c at 5 holds 50;", "round z(walk z;)",
            "round z(light;light;)round z()"}) {
            Check.same("teach of " + bad, Books.teach(x, bad) == 0, false);
            Check.same("digest behind " + bad, x.digest(), before);
            Check.refuses("the tape behind " + bad, x, IllegalArgumentException.class, () -> x.trim(1));
        }
        Check.same("setClouds stays behind a failed teach", x.setClouds(true), true);
        Check.same("busyOf behind a failed teach", x.busyOf(0), 49);
        x.passQuarters(2);
        Check.same("the act goes on behind a failed teach", x.busyOf(0), 47);
        Check.same("errorAt of the latest one", x.errorAt(), 27);
        Check.same("an empty book", x.teach(), 0);
        Check.same("errorAt behind an empty book", x.errorAt(), -1);
        Check.same("lamps of an empty book", x.lamps(), 0);
        Check.same("rounds of an empty book", x.rounds(), 0);
        Check.same("acts of an empty book", x.acts(), 0);
        Check.same("lighters stay", x.lighters(), 1);
    }

    private static void goodTeach() {
        String text = "lamp a at 0 holds 9;lamp b at 3 holds 4;round r(note 5;light;fill 3;go b;wait 60;)";
        LampLighters x = Books.begun(text, 0, 9, 12);
        x.passNights(1);
        x.passQuarters(4);
        x.setClouds(true);
        x.passQuarters(7);
        Check.same("notes ahead of teach", x.notesOf(0) > 0, true);
        Check.same("can ahead of teach", x.canOf(0) < 9, true);
        Check.same("oilBurnt ahead of teach", x.oilBurnt() > 0, true);
        Check.same("wick ahead of teach", x.wickOf(0) < 10, true);
        Check.same("teach once more", Books.teach(x, text), 0);
        LampLighters fresh = Books.street(text, 9, 12);
        Check.same("digest behind teach", x.digest(), fresh.digest());
        Check.same("night behind teach", x.night(), 0);
        Check.same("quarter behind teach", x.quarter(), 0);
        Check.same("darkOf behind teach", x.darkOf(1), 0);
        Check.same("oilBurnt behind teach", x.oilBurnt(), 0);
        Check.same("wickOf behind teach", x.wickOf(0), 10);
        Check.same("isLit behind teach", x.isLit(0), false);
        Check.same("hasRound behind teach", x.hasRound(0), false);
        Check.same("isDone behind teach", x.isDone(0), true);
        Check.same("busyOf behind teach", x.busyOf(0), 0);
        Check.same("canOf behind teach", x.canOf(0), 9);
        Check.same("canOf of another behind teach", x.canOf(1), 12);
        Check.same("placeOf behind teach", x.placeOf(0), 0);
        Check.same("notesOf behind teach", x.notesOf(0), 0);
        Check.same("setClouds behind teach", x.setClouds(false), false);
        clockBeginsAnew();
    }

    private static void clockBeginsAnew() {
        LampLighters x = Books.street("lamp a at 0 holds 9;");
        x.lightLamp(0);
        x.passQuarters(1);
        Books.teach(x, "lamp a at 0 holds 9;");
        x.lightLamp(0);
        x.passQuarters(1);
        Check.same("the clock begins anew with teach", x.oilOf(0), 9);
        x.passQuarters(1);
        Check.same("the clock goes on behind teach", x.oilOf(0), 8);
    }
}
