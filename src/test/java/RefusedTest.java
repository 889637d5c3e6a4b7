/** The last sentences of "Terms": a method that throws changes nothing, and the exception that is named first is thrown. */
public final class RefusedTest {
    private static final Class<IndexOutOfBoundsException> INDEX = IndexOutOfBoundsException.class;
    private static final Class<IllegalArgumentException> ARGUMENT = IllegalArgumentException.class;
    private static final Class<IllegalStateException> STATE = IllegalStateException.class;
    private static final String BOOK = "lamp a at 0 holds 9;lamp b at 3 holds 29;"
        + "round r(note 1;do 3(go b;light;fill 3;go a;light;note oil;))round s(do 9(note hour;wait 3;fill 2;))round t()";
    private static final String NEXT = "lamp z at 5 holds 5;round y(note 9;)";

    private RefusedTest() {
    }

    public static void main(String[] args) {
        feed();
        trim();
        hire();
        hireTheFourth();
        assign();
        byHand();
        passing();
        ofLamps();
        ofLighters();
        roundOf();
        whatWouldBe();
        bestRoundWithoutRounds();
        manyRefusals();
        namedFirst();
        Check.end();
    }

    /** A street amid a night: clouds, notes, lamps that burn, acts that are begun in blocks, an error, and a tape. */
    private static LampLighters amid(String tape) {
        LampLighters x = Books.street(BOOK, 9, 12);
        x.assign(0, 0);
        x.assign(1, 1);
        x.passNights(1);
        x.setClouds(true);
        x.passQuarters(11);
        Books.teach(x, "lamp a at 30 holds 1;");
        Books.feed(x, tape);
        return x;
    }

    private static LampLighters amid() {
        return amid(NEXT);
    }

    /** Its tape ends too early, so that teach tells how long it is. */
    private static LampLighters amidWithACutTape() {
        return amid(NEXT + "round x(");
    }

    private static LampLighters amidWithAFullTape() {
        return amid(NEXT + " ".repeat(1600 - NEXT.length()));
    }

    private static LampLighters amidWithTooFullATape() {
        return amid(" ".repeat(1573) + "round x(");
    }

    private static LampLighters amidWithThree() {
        LampLighters x = amid();
        x.hire(7);
        return x;
    }

    private static LampLighters withoutRounds() {
        LampLighters x = Books.street("lamp a at 0 holds 9;lamp b at 3 holds 29;", 9, 12);
        x.lightLamp(1);
        x.passQuarters(5);
        return x;
    }

    private static void feed() {
        Check.about("Promise 2: feed that throws changes nothing");
        Twins.refuses("feed at 1600", STATE, RefusedTest::amidWithAFullTape, x -> x.feed(0x78787878, 1, 2, 3, 4));
        Twins.refuses("feed at 1581", STATE, RefusedTest::amidWithTooFullATape, x -> x.feed(0x78787878, 1, 2, 3, 4));
    }

    private static void trim() {
        Check.about("Promise 3: trim that throws changes nothing");
        for (int wrong : new int[] {-1, NEXT.length() + 9, Integer.MIN_VALUE, Integer.MAX_VALUE}) {
            Twins.refuses("trim " + wrong, ARGUMENT, RefusedTest::amid, x -> x.trim(wrong));
            Twins.refuses("trim " + wrong, ARGUMENT, RefusedTest::amidWithACutTape, x -> x.trim(wrong));
        }
        Twins.refuses("trim to 1601", ARGUMENT, RefusedTest::amidWithAFullTape, x -> x.trim(1601));
    }

    private static void hire() {
        Check.about("Promise 6: hire that throws changes nothing");
        for (int wrong : new int[] {0, -1, 61, Integer.MIN_VALUE, Integer.MAX_VALUE}) {
            Twins.refuses("hire " + wrong, ARGUMENT, RefusedTest::amid, x -> x.hire(wrong));
        }
    }

    private static void hireTheFourth() {
        Check.about("Promise 6: hire that throws as there are 3 changes nothing");
        Twins.refuses("hire 5", STATE, RefusedTest::amidWithThree, x -> x.hire(5));
        Twins.refuses("hire 61", ARGUMENT, RefusedTest::amidWithThree, x -> x.hire(61));
    }

    private static void assign() {
        Check.about("Promise 7: assign that throws changes nothing");
        int[][] wrong = {{-1, 0}, {2, 0}, {3, 0}, {0, -1}, {0, 3}, {1, 6}, {Integer.MIN_VALUE, 1}, {1, Integer.MAX_VALUE}};
        for (int[] of : wrong) {
            Twins.refuses("assign " + of[0] + " " + of[1], INDEX, RefusedTest::amid, x -> x.assign(of[0], of[1]));
        }
    }

    private static void byHand() {
        for (int wrong : new int[] {-1, 2, 10}) {
            Check.about("Promise 9: lightLamp that throws changes nothing");
            Twins.refuses("lightLamp " + wrong, INDEX, RefusedTest::amid, x -> x.lightLamp(wrong));
            Check.about("Promise 10: douseLamp that throws changes nothing");
            Twins.refuses("douseLamp " + wrong, INDEX, RefusedTest::amid, x -> x.douseLamp(wrong));
            Check.about("Promise 11: fillLamp that throws changes nothing");
            Twins.refuses("fillLamp " + wrong, INDEX, RefusedTest::amid, x -> x.fillLamp(wrong, 5));
            Check.about("Promise 12: trimLamp that throws changes nothing");
            Twins.refuses("trimLamp " + wrong, INDEX, RefusedTest::amid, x -> x.trimLamp(wrong));
        }
        Check.about("Promise 11: fillLamp that throws changes nothing");
        for (int wrong : new int[] {0, -5, 31, Integer.MAX_VALUE}) {
            Twins.refuses("fillLamp of " + wrong, ARGUMENT, RefusedTest::amid, x -> x.fillLamp(0, wrong));
        }
    }

    private static void passing() {
        for (int wrong : new int[] {0, -1, 41, Integer.MIN_VALUE, Integer.MAX_VALUE}) {
            Check.about("Promise 13: passQuarters that throws changes nothing");
            Twins.refuses("passQuarters " + wrong, ARGUMENT, RefusedTest::amid, x -> x.passQuarters(wrong));
            Check.about("Promise 14: passNights that throws changes nothing");
            Twins.refuses("passNights " + wrong, ARGUMENT, RefusedTest::amid, x -> x.passNights(wrong));
        }
        Twins.refuses("passNights 6", ARGUMENT, RefusedTest::amid, x -> x.passNights(6));
    }

    private static void ofLamps() {
        Check.about("Promises 18 to 23: what is asked of no such lamp throws and changes nothing");
        Twins.refuses("postOf", INDEX, RefusedTest::amid, x -> x.postOf(2));
        Twins.refuses("roomOf", INDEX, RefusedTest::amid, x -> x.roomOf(2));
        Twins.refuses("oilOf", INDEX, RefusedTest::amid, x -> x.oilOf(2));
        Twins.refuses("wickOf", INDEX, RefusedTest::amid, x -> x.wickOf(2));
        Twins.refuses("isLit", INDEX, RefusedTest::amid, x -> x.isLit(2));
        Twins.refuses("darkOf", INDEX, RefusedTest::amid, x -> x.darkOf(2));
    }

    private static void ofLighters() {
        Check.about("Promises 31 to 38: what is asked of no such lighter, or note, throws and changes nothing");
        Twins.refuses("placeOf", INDEX, RefusedTest::amid, x -> x.placeOf(2));
        Twins.refuses("canOf", INDEX, RefusedTest::amid, x -> x.canOf(2));
        Twins.refuses("hasRound", INDEX, RefusedTest::amid, x -> x.hasRound(2));
        Twins.refuses("roundOf", INDEX, RefusedTest::amid, x -> x.roundOf(2));
        Twins.refuses("isDone", INDEX, RefusedTest::amid, x -> x.isDone(2));
        Twins.refuses("busyOf", INDEX, RefusedTest::amid, x -> x.busyOf(2));
        Twins.refuses("notesOf", INDEX, RefusedTest::amid, x -> x.notesOf(2));
        Twins.refuses("noteOf", INDEX, RefusedTest::amid, x -> x.noteOf(2, 0));
        Twins.refuses("noteOf 20 back", INDEX, RefusedTest::amid, x -> x.noteOf(0, 20));
        Twins.refuses("noteOf -1 back", INDEX, RefusedTest::amid, x -> x.noteOf(0, -1));
    }

    private static void roundOf() {
        Check.about("Promise 34: roundOf that throws, as this one has none, changes nothing");
        Twins.refuses("roundOf", STATE, RefusedTest::amidWithThree, x -> x.roundOf(2));
    }

    private static void whatWouldBe() {
        Check.about("Promise 39: quartersUntilLit that throws changes nothing");
        Twins.refuses("quartersUntilLit 2", INDEX, RefusedTest::amid, x -> x.quartersUntilLit(2));
        Check.about("Promise 40: darkAfter that throws changes nothing");
        Twins.refuses("darkAfter 0", ARGUMENT, RefusedTest::amid, x -> x.darkAfter(0));
        Twins.refuses("darkAfter 81", ARGUMENT, RefusedTest::amid, x -> x.darkAfter(81));
        Check.about("Promise 42: bestRound that throws changes nothing");
        Twins.refuses("bestRound 2 1", INDEX, RefusedTest::amid, x -> x.bestRound(2, 1));
        Twins.refuses("bestRound 0 0", ARGUMENT, RefusedTest::amid, x -> x.bestRound(0, 0));
        Twins.refuses("bestRound 0 41", ARGUMENT, RefusedTest::amid, x -> x.bestRound(0, 41));
    }

    private static void bestRoundWithoutRounds() {
        Check.about("Promise 42: bestRound that throws, as there are no rounds, changes nothing");
        Twins.refuses("bestRound 0 40", STATE, RefusedTest::withoutRounds, x -> x.bestRound(0, 40));
    }

    private static void manyRefusals() {
        Check.about("Terms: many calls that throw, of a new object as well, change nothing");
        LampLighters x = new LampLighters();
        for (int n = 0; n < 20; n++) {
            Check.refuses("trim", x, ARGUMENT, () -> x.trim(1));
            Check.refuses("hire", x, ARGUMENT, () -> x.hire(61));
            Check.refuses("assign", x, INDEX, () -> x.assign(0, 0));
            Check.refuses("passNights", x, ARGUMENT, () -> x.passNights(6));
            Check.refuses("darkAfter", x, ARGUMENT, () -> x.darkAfter(81));
            Check.refuses("bestRound", x, INDEX, () -> x.bestRound(0, 1));
        }
        Twins.sameFromNowOn("all of them", x, new LampLighters());
    }

    private static void namedFirst() {
        Check.about("Terms: if several exceptions apply, the one that is named first is thrown");
        Twins.refuses("hire: wrong can and 3", ARGUMENT, RefusedTest::amidWithThree, x -> x.hire(0));
        Twins.refuses("fillLamp: no lamp and wrong oil", INDEX, RefusedTest::amid, x -> x.fillLamp(2, 0));
        Twins.refuses("bestRound: no lighter and wrong quarters", INDEX, RefusedTest::amid, x -> x.bestRound(2, 0));
        Twins.refuses("bestRound: no lighter and no rounds", INDEX, RefusedTest::withoutRounds, x -> x.bestRound(2, 1));
        Twins.refuses("bestRound: wrong quarters and no rounds", ARGUMENT, RefusedTest::withoutRounds, x -> x.bestRound(0, 41));
        Twins.refuses("bestRound: all three", INDEX, RefusedTest::withoutRounds, x -> x.bestRound(2, 41));
    }
}
