/** Of "Terms", the book: errors 2 to 5, and which one is told (as teach and errorAt, promises 4 and 5, tell it). */
public final class ErrorTest {
    private static final String LAMPS = "lamp a at 1 holds 2;lamp b at 3 holds 4;";
    private static final String ROUNDS = "round u()round v()round w()round x()round y()round z()";

    private ErrorTest() {
    }

    public static void main(String[] args) {
        lampLikeLamp();
        roundLikeLamp();
        roundLikeRound();
        otherNames();
        goToNoLamp();
        walkToNoRound();
        walkToRoundNotEnded();
        tooManyLamps();
        tooManyRounds();
        tooManyActs();
        actsInBlocks();
        postOutOfBounds();
        roomOutOfBounds();
        valueOutOfBounds();
        leftToRight();
        smallestAtOneToken();
        Check.end();
    }

    private static void lampLikeLamp() {
        Check.about("Terms, the book, error 2: a lamp gets a name that a lamp ahead of it has");
        Books.error("lamp a at 1 holds 2;lamp a at 3 holds 4;", 2, 25);
        Books.error(LAMPS + "lamp a at 3 holds 4;", 2, 45);
        Books.error(LAMPS + "lamp b at 3 holds 4;", 2, 45);
        Books.error("lamp aaaaaaaa at 1 holds 2;lamp aaaaaaaa at 3 holds 4;", 2, 32);
        Books.error(Books.lamps(9) + "lamp i at 3 holds 4;", 2, Books.lamps(9).length() + 5);
    }

    private static void roundLikeLamp() {
        Check.about("Terms, the book, error 2: a round gets a name that a lamp ahead of it has");
        Books.error("lamp a at 1 holds 2;round a()", 2, 26);
        Books.error(LAMPS + "round r()round b()", 2, 55);
        Books.error(Books.lamps(10) + "round j()", 2, Books.lamps(10).length() + 6);
    }

    private static void roundLikeRound() {
        Check.about("Terms, the book, error 2: a round gets a name that a round ahead of it has");
        Books.error("round a()round a()", 2, 15);
        Books.error("round a()round b()round a()", 2, 24);
        Books.error("round u()round v()round w()round x()round y()round y()", 2, 51);
    }

    private static void otherNames() {
        Check.about("Terms, the book, error 2: names that differ in one letter, or in length, are others");
        Books.right("lamp a at 1 holds 2;lamp aa at 3 holds 4;round ab()round aaa()", 2, 2, 0);
        Books.right("lamp aaaaaaaa at 1 holds 2;lamp aaaaaaab at 3 holds 4;lamp zzzzzzzz at 1 holds 1;", 3, 0, 0);
        Books.right("lamp baaaaaaa at 1 holds 2;lamp aaaaaaaa at 3 holds 4;lamp aaaaaaa at 1 holds 1;", 3, 0, 0);
        Books.right("lamp z at 1 holds 2;lamp az at 1 holds 1;lamp za at 1 holds 1;lamp ba at 1 holds 1;", 4, 0, 0);
    }

    private static void goToNoLamp() {
        Check.about("Terms, the book, error 3: a name behind go that isn't that of a lamp");
        Books.error(LAMPS + "round r(go c;)", 3, 51);
        Books.error("round r(go a;)", 3, 11);
        Books.error(LAMPS + "round r(go r;)", 3, 51);
        Books.error(LAMPS + "round r()round s(go r;)", 3, 60);
        Books.error(LAMPS + "round r(go a;go b;go ab;)", 3, 61);
        Books.right(Books.lamps(10) + "round r(go a;go j;)", 10, 1, 2);
    }

    private static void walkToNoRound() {
        Check.about("Terms, the book, error 3: a name behind walk that isn't that of a round");
        Books.error("round r(walk s;)", 3, 13);
        Books.error(LAMPS + "round r(walk a;)", 3, 53);
        Books.error("round r()round s(walk q;)", 3, 22);
    }

    private static void walkToRoundNotEnded() {
        Check.about("Terms, the book, error 3: behind walk the name of a round of which the block hasn't ended");
        Books.error(LAMPS + "round r(walk r;)", 3, 53);
        Books.error("round r(do 1(walk r;))", 3, 18);
        Books.error(LAMPS + "round r(walk s;)round s()", 3, 53);
        Books.right(LAMPS + "round r()round s(walk r;)round t(walk s;walk r;go a;)", 2, 3, 4);
        Books.right(ROUNDS.replace("z()", "z(walk y;walk u;)"), 0, 6, 2);
    }

    private static void tooManyLamps() {
        Check.about("Terms, the book, error 4: the name of the 11th lamp");
        String ten = Books.lamps(10);
        Books.right(ten, 10, 0, 0);
        Books.error(ten + "lamp k at 1 holds 2;", 4, ten.length() + 5);
        Books.error(ten + "lamp k at 1 holds 2;lamp l at 1 holds 2;", 4, ten.length() + 5);
        Books.error(ten + "lamp k at 1 holds 2;round r(go k;)", 4, ten.length() + 5);
        Books.error(ten + "lamp k at 30 holds 0;", 4, ten.length() + 5);
    }

    private static void tooManyRounds() {
        Check.about("Terms, the book, error 4: the name of the 7th round");
        Books.right(ROUNDS, 0, 6, 0);
        Books.right(Books.lamps(10) + ROUNDS, 10, 6, 0);
        Books.error(ROUNDS + "round g()", 4, 60);
        Books.error(ROUNDS + "round g()round h()", 4, 60);
        Books.error(ROUNDS + "round g(walk g;)", 4, 60);
    }

    private static void tooManyActs() {
        Check.about("Terms, the book, error 4: the first word of the 81st act");
        String acts = "trim;".repeat(80);
        Books.right("round r(" + acts + ")", 0, 1, 80);
        Books.error("round r(" + acts + "trim;)", 4, 408);
        Books.error("round r(" + acts + "trim;trim;)", 4, 408);
        Books.error("round r(" + acts + "go a;)", 4, 408);
        Books.error("round r(" + acts + "fill 100;)", 4, 408);
        Books.error("round r(" + acts + "if 100=1())", 4, 408);
    }

    private static void actsInBlocks() {
        Check.about("Terms, the book, error 4: all acts of the book are counted, those in blocks of others as well");
        Books.right("round r(" + "trim;".repeat(78) + "do 1(trim;))", 0, 1, 80);
        Books.error("round r(" + "trim;".repeat(78) + "do 1(trim;trim;))", 4, 408);
        Books.error("round r(do 1(" + "trim;".repeat(79) + ")trim;)", 4, 409);
        Books.right("round r(" + "trim;".repeat(76) + "if 1=1(trim;)else(trim;trim;))", 0, 1, 80);
        Books.error("round r(" + "trim;".repeat(77) + "if 1=1(trim;)else(trim;trim;))", 4, 416);
        Books.right("round r(" + "trim;".repeat(60) + ")round s(" + "trim;".repeat(20) + ")", 0, 2, 80);
        Books.error("round r(" + "trim;".repeat(60) + ")round s(" + "trim;".repeat(21) + ")", 4, 417);
    }

    private static void postOutOfBounds() {
        Check.about("Terms, the book, error 5: the number behind at isn't 0 to 29");
        for (int post = 0; post <= 29; post++) {
            Books.right("lamp a at " + post + " holds 1;", 1, 0, 0);
        }
        for (int post : new int[] {30, 31, 99, 100, 999}) {
            Books.error("lamp a at " + post + " holds 1;", 5, 10);
            Books.error(LAMPS + "lamp c at " + post + " holds 1;", 5, 50);
        }
    }

    private static void roomOutOfBounds() {
        Check.about("Terms, the book, error 5: the number behind holds isn't 1 to 30");
        for (int room = 1; room <= 30; room++) {
            Books.right("lamp a at 0 holds " + room + ";", 1, 0, 0);
        }
        for (String room : new String[] {"0", "00", "000", "31", "031", "99", "100", "999"}) {
            Books.error("lamp a at 0 holds " + room + ";", 5, 18);
            Books.error(LAMPS + "lamp c at 0 holds " + room + ";", 5, 58);
        }
    }

    private static void valueOutOfBounds() {
        Check.about("Terms, the book, error 5: a number that is a value isn't 0 to 99");
        String[] places = {"fill |;", "wait |;", "note |;", "do |()", "if |<oil()", "if oil<|()", "if 1<1 and |=1()",
            "if 1<1 and 1=|()", "if 1<1()else(note |;)"};
        for (String place : places) {
            for (String value : new String[] {"0", "99", "099", "000"}) {
                int acts = place.contains("else") ? 2 : 1;
                Books.right("round r(" + place.replace("|", value) + ")", 0, 1, acts);
            }
            for (String value : new String[] {"100", "101", "999"}) {
                Books.error("round r(" + place.replace("|", value) + ")", 5, 8 + place.indexOf('|'));
            }
        }
    }

    private static void leftToRight() {
        Check.about("Terms, the book: of errors 2 to 5 the first one from left to right is told");
        Books.error("lamp a at 30 holds 1;lamp a at 1 holds 1;", 5, 10);
        Books.error("lamp a at 30 holds 0;", 5, 10);
        Books.error("lamp a at 3 holds 0;lamp b at 30 holds 1;", 5, 18);
        Books.error("lamp a at 3 holds 1;lamp a at 99 holds 99;", 2, 25);
        Books.error("round r(go x;fill 100;)", 3, 11);
        Books.error("round r(fill 100;go x;)", 5, 13);
        Books.error("round r(fill 100;)round r()", 5, 13);
        Books.error("round r(walk x;)round r()", 3, 13);
        Books.error("round r()round r(walk x;)", 2, 15);
        Books.error(ROUNDS + "round g(walk x;fill 100;)", 4, 60);
        Books.error(ROUNDS.replace("z()", "z(wait 100;)") + "round g()", 5, 58);
    }

    private static void smallestAtOneToken() {
        Check.about("Terms, the book: of errors at one token the one with the smallest number is told");
        String ten = Books.lamps(10);
        Books.error(ten + "lamp a at 1 holds 2;", 2, ten.length() + 5);
        Books.error(ten + "lamp j at 1 holds 2;", 2, ten.length() + 5);
        Books.error(ROUNDS + "round z()", 2, 60);
        Books.error(ROUNDS + "round u()", 2, 60);
        Books.error("lamp a at 1 holds 2;" + ROUNDS + "round a()", 2, 80);
    }
}
