import java.math.BigInteger;

/** Promises 39, 40 and 42 to 44: what would be, the best round, the mean oil and the digest. */
public final class WouldBeTest {
    private static final Class<IndexOutOfBoundsException> INDEX = IndexOutOfBoundsException.class;
    private static final Class<IllegalArgumentException> ARGUMENT = IllegalArgumentException.class;
    private static final Class<IllegalStateException> STATE = IllegalStateException.class;
    private static final String BOOK = "lamp a at 2 holds 9;lamp b at 6 holds 9;lamp c at 20 holds 1;"
        + "round r(go b;light;go a;light;)round s(go a;light;go b;light;)round t()round u(go a;light;go b;light;)";

    private WouldBeTest() {
    }

    public static void main(String[] args) {
        untilLit();
        untilLitNow();
        untilLitNever();
        untilLitEighty();
        untilLitOverDawn();
        untilLitInTheLastQuarter();
        untilLitAndOut();
        untilLitInQuartersThatAreOff();
        untilLitAsItComes();
        untilLitNoSuchLamp();
        darkAfter();
        darkAfterAsItComes();
        darkAfterWrong();
        darkAfterWithoutLamps();
        darkAfterOff();
        darkAfterWithCans();
        bestRound();
        bestRoundOfSeveral();
        bestRoundOfThisOne();
        bestRoundWithOthers();
        bestRoundQuarters();
        bestRoundOff();
        bestRoundBeginsAnew();
        bestRoundAsItComes();
        bestRoundNoSuchLighter();
        bestRoundWrongQuarters();
        bestRoundWithoutRounds();
        bestRoundNamedFirst();
        nothingIsChanged();
        meanOil();
        meanOilWithoutLamps();
        meanOilIsNoWholeNumber();
        digestOfANewObject();
        digest();
        digestOfANightThatIsOff();
        digestOfNotes();
        digestWrapsAround();
        Check.end();
    }

    private static void untilLit() {
        Check.about("Promise 39: behind how many quarters it is lit for the first time");
        LampLighters x = Books.begun(BOOK, 1, 9);
        Check.same("lamp a", x.quartersUntilLit(0), 3);
        Check.same("lamp b", x.quartersUntilLit(1), 8);
        x.passQuarters(2);
        Check.same("lamp a then", x.quartersUntilLit(0), 1);
        Check.same("lamp b then", x.quartersUntilLit(1), 6);
    }

    private static void untilLitNow() {
        Check.about("Promise 39: 0 if it is lit now");
        LampLighters x = Books.begun(BOOK, 1, 9);
        x.passQuarters(3);
        Check.same("lit by a lighter", x.quartersUntilLit(0), 0);
        LampLighters y = Books.street(BOOK);
        y.lightLamp(2);
        Check.same("lit by hand", y.quartersUntilLit(2), 0);
        y.passQuarters(39);
        y.fillLamp(2, 1);
        y.lightLamp(2);
        Check.same("in the last quarter of a night", y.quartersUntilLit(2), 0);
        y.passQuarters(1);
        Check.same("behind it", y.quartersUntilLit(2), -1);
    }

    private static void untilLitNever() {
        Check.about("Promise 39: -1 if it is not lit by then");
        LampLighters x = Books.begun(BOOK, 1, 9);
        Check.same("to which nobody goes", x.quartersUntilLit(2), -1);
        LampLighters none = Books.street(BOOK);
        Check.same("without lighters", none.quartersUntilLit(0), -1);
        none.hire(9);
        Check.same("without a round", none.quartersUntilLit(0), -1);
    }

    private static void untilLitEighty() {
        Check.about("Promise 39: at most 80");
        // the moonlight is 2 in the night 2 for the first time
        LampLighters x = Books.begun("lamp a at 0 holds 9;round r(if moon=2(light;))", 0, 9);
        Check.same("81 quarters ahead", x.quartersUntilLit(0), -1);
        x.passQuarters(1);
        Check.same("80 quarters ahead", x.quartersUntilLit(0), 80);
        x.passQuarters(1);
        Check.same("79 quarters ahead", x.quartersUntilLit(0), 79);
        x.passQuarters(38);
        Check.same("41 quarters ahead", x.quartersUntilLit(0), 41);
        x.passQuarters(40);
        Check.same("1 quarter ahead", x.quartersUntilLit(0), 1);
    }

    private static void untilLitOverDawn() {
        Check.about("Promise 39: over dawn, at which rounds begin anew");
        LampLighters x = Books.begun(BOOK, 1, 9);
        x.passQuarters(30);
        Check.same("its oil is burnt by then", x.oilOf(0), 0);
        x.fillLamp(0, 9);
        Check.same("lamp a", x.quartersUntilLit(0), 10 + 3);
        LampLighters y = Books.begun("lamp a at 0 holds 9;round r(if moon=1(wait 38;light;))", 0, 9);
        Check.same("in the next night", y.quartersUntilLit(0), 79);
    }

    private static void untilLitInTheLastQuarter() {
        Check.about("Promise 39: one that is lit in the last quarter of a night isn't lit behind it");
        LampLighters x = Books.begun("lamp a at 0 holds 9;round r(wait 39;light;)", 0, 9);
        Check.same("in the last quarter", x.quartersUntilLit(0), -1);
        LampLighters y = Books.begun("lamp a at 0 holds 9;round r(wait 38;light;)", 0, 9);
        Check.same("in the one ahead of it", y.quartersUntilLit(0), 39);
    }

    private static void untilLitAndOut() {
        Check.about("Promise 39: one that burns its last oil as it is lit isn't lit behind that quarter");
        LampLighters x = Books.begun("lamp a at 0 holds 1;round r(wait 3;light;)", 0, 9);
        x.lightLamp(0);
        x.passQuarters(1);
        x.douseLamp(0);
        Check.same("the clock's 2", x.quartersUntilLit(0), -1);
    }

    private static void untilLitInQuartersThatAreOff() {
        Check.about("Promise 39: in quarters that are off nobody lights it, as the sky is");
        LampLighters x = Books.street("lamp a at 0 holds 9;round r(light;)", 9);
        Books.passTo(x, 11);
        x.assign(0, 0);
        Check.same("under a clear sky", x.quartersUntilLit(0), -1);
        x.setClouds(true);
        Check.same("under clouds", x.quartersUntilLit(0), 1);
        x.setClouds(false);
        Books.passTo(x, 17);
        Check.same("81 quarters ahead", x.quartersUntilLit(0), -1);
        x.passQuarters(1);
        Check.same("80 quarters ahead", x.quartersUntilLit(0), 80);
    }

    /** A street with two lighters who are amid acts in blocks, of which most are done several times. */
    private static LampLighters busy(int quarters) {
        LampLighters x = Books.street("lamp a at 0 holds 30;lamp b at 5 holds 7;lamp c at 9 holds 30;"
            + "round p(do 2(wait 2;if lit=0(light;)else(douse;wait 1;)))"
            + "round q(do 3(walk p;do 2(go b;fill 2;light;wait 4;)go c;trim;douse;do 2(wait 3;light;wait 2;douse;)go a;))"
            + "round r(go c;do 9(do 2(light;wait 1;douse;wait hour;)go a;wait 3;walk p;go c;))", 9, 5);
        x.assign(0, 1);
        x.assign(1, 2);
        for (int n = 0; n < quarters; n++) {
            x.passQuarters(1);
        }
        return x;
    }

    private static void untilLitAsItComes() {
        Check.about("Promise 39: as it comes if nothing is done by hand, amid any act");
        for (int ahead = 0; ahead < 80; ahead++) {
            for (int lamp = 0; lamp < 3; lamp++) {
                LampLighters x = busy(ahead);
                int would = x.quartersUntilLit(lamp);
                int passed = 0;
                while (!x.isLit(lamp) && passed <= 80) {
                    x.passQuarters(1);
                    passed++;
                }
                Check.same("lamp " + lamp + " behind " + ahead, would, passed > 80 ? -1 : passed);
            }
        }
    }

    private static void untilLitNoSuchLamp() {
        Check.about("Promise 39: IndexOutOfBoundsException if there is no such lamp");
        LampLighters x = Books.begun(BOOK, 1, 9);
        for (int wrong : new int[] {-1, 3, 10, Integer.MAX_VALUE, Integer.MIN_VALUE}) {
            Check.refuses("lamp " + wrong, x, INDEX, () -> x.quartersUntilLit(wrong));
        }
        LampLighters none = new LampLighters();
        Check.refuses("lamp 0 of none", none, INDEX, () -> none.quartersUntilLit(0));
    }

    private static void darkAfter() {
        Check.about("Promise 40: for how many quarters lamps would be dark, of 1 to 80");
        LampLighters x = Books.begun(BOOK, 1, 9);
        Check.same("darkAfter 1", x.darkAfter(1), 3);
        Check.same("darkAfter 2", x.darkAfter(2), 6);
        Check.same("darkAfter 3", x.darkAfter(3), 8);
        Check.same("darkAfter 8", x.darkAfter(8), 17);
        Check.same("darkAfter 8 once more", x.darkAfter(8), 17);
        LampLighters y = Books.street(Books.lamps(10));
        Check.same("80 of ten lamps", y.darkAfter(80), 800);
        Check.same("79 of ten lamps", y.darkAfter(79), 790);
    }

    private static void darkAfterAsItComes() {
        Check.about("Promise 40: as many as there are if nothing is done by hand, amid any act");
        for (int ahead = 0; ahead < 40; ahead++) {
            for (int quarters : new int[] {1, 2, 3, 5, 8, 13, 21, 34, 40, 41, 55, 79, 80}) {
                LampLighters x = busy(ahead);
                int would = x.darkAfter(quarters);
                int are = 0;
                for (int n = 0; n < quarters; n++) {
                    are += x.passQuarters(1);
                }
                Check.same("darkAfter " + quarters + " behind " + ahead, would, are);
            }
        }
    }

    private static void darkAfterWrong() {
        Check.about("Promise 40: IllegalArgumentException if quarters is not 1 to 80");
        LampLighters x = Books.begun(BOOK, 1, 9);
        LampLighters none = new LampLighters();
        for (int wrong : new int[] {0, -1, 81, 82, Integer.MAX_VALUE, Integer.MIN_VALUE}) {
            Check.refuses("darkAfter " + wrong, x, ARGUMENT, () -> x.darkAfter(wrong));
            Check.refuses("darkAfter " + wrong + " without lamps", none, ARGUMENT, () -> none.darkAfter(wrong));
        }
    }

    private static void darkAfterWithoutLamps() {
        Check.about("Promise 40: 0 without lamps");
        Check.same("of a new object", new LampLighters().darkAfter(80), 0);
        Check.same("with lighters", Books.begun("round r(light;note 1;)", 0, 9).darkAfter(1), 0);
    }

    private static void darkAfterOff() {
        Check.about("Promise 40: none in quarters that are off");
        LampLighters x = Books.street("lamp a at 0 holds 9;");
        Books.passTo(x, 10);
        Check.same("into them", x.darkAfter(80), 40);
        x.passQuarters(30);
        Check.same("1 more than the last one ahead of them", x.darkAfter(11), 10);
        Books.passTo(x, 12);
        Check.same("amid them", x.darkAfter(80), 0);
        x.setClouds(true);
        Check.same("under clouds", x.darkAfter(80), 80);
        x.setClouds(false);
        Books.passTo(x, 18);
        Check.same("out of them", x.darkAfter(80), 40);
        Check.same("just not out of them", x.darkAfter(40), 0);
        Check.same("just out of them", x.darkAfter(41), 1);
    }

    private static void darkAfterWithCans() {
        Check.about("Promises 39 and 40: cans are as full as they are, and full at dawn");
        LampLighters x = Books.street("lamp a at 0 holds 2;round r(fill 2;light;)", 2);
        x.lightLamp(0);
        x.passQuarters(4);
        x.assign(0, 0);
        Check.same("darkAfter with a full can", x.darkAfter(5), 1);
        Check.same("quartersUntilLit with a full can", x.quartersUntilLit(0), 2);
        x.passQuarters(5);
        x.assign(0, 0);
        Check.same("darkAfter with an empty can", x.darkAfter(30), 30);
        Check.same("quartersUntilLit with an empty can, till behind dawn", x.quartersUntilLit(0), 33);
        Check.same("darkAfter with a full can at dawn", x.darkAfter(40), 32 + 4);
    }

    private static void bestRound() {
        Check.about("Promise 42: the round with which lamps are dark for the fewest quarters");
        LampLighters x = Books.street(BOOK, 9, 9);
        Check.same("the nearest lamp first", x.bestRound(0, 3), 1);
        Check.same("for the other one as well", x.bestRound(1, 20), 1);
        LampLighters y = Books.street("lamp a at 0 holds 9;round r()round s()round t(light;)", 9);
        Check.same("the last one", y.bestRound(0, 1), 2);
        LampLighters z = Books.street("lamp a at 0 holds 9;round r(light;)round s()round t()", 9);
        Check.same("the first one", z.bestRound(0, 40), 0);
        LampLighters six = Books.street("lamp a at 0 holds 9;round p()round q()round r()round s()round t()round u(light;)", 9);
        Check.same("the last one of six", six.bestRound(0, 40), 5);
    }

    private static void bestRoundOfSeveral() {
        Check.about("Promise 42: of several the smallest number");
        LampLighters x = Books.street(BOOK, 9, 9);
        Check.same("of all", x.bestRound(0, 2), 0);
        Check.same("of two", x.bestRound(0, 9), 1);
        Check.same("both lamps burn all their oil in 40", x.bestRound(0, 40), 0);
        LampLighters none = Books.street("round r(light;)round s(light;)", 9);
        Check.same("without lamps", none.bestRound(0, 40), 0);
        LampLighters one = Books.street("lamp a at 0 holds 9;round r()", 9);
        Check.same("of one round", one.bestRound(0, 1), 0);
    }

    private static void bestRoundOfThisOne() {
        Check.about("Promise 42: also the one that this one has, from where this one is");
        LampLighters z = Books.begun("lamp a at 5 holds 9;round r(light;)round s(go a;light;)", 1, 9);
        Check.same("the one that this one has", z.bestRound(0, 9), 1);
        LampLighters y = Books.begun("lamp a at 5 holds 9;round r(light;)round s(go a;light;)", 1, 9);
        y.passQuarters(6);
        y.douseLamp(0);
        Check.same("from where this one is", y.bestRound(0, 9), 0);
    }

    private static void bestRoundWithOthers() {
        Check.about("Promise 42: with what the others do");
        LampLighters x = Books.street(BOOK, 9, 9);
        x.assign(1, 1);
        Check.same("the other one lights the nearest lamp", x.bestRound(0, 7), 0);
        Check.same("and is as fast", x.bestRound(0, 3), 0);
        Check.same("for the other one itself", x.bestRound(1, 3), 1);
    }

    private static void bestRoundQuarters() {
        Check.about("Promise 42: quarters are 1 to 40, and no more are looked at");
        LampLighters x = Books.street("lamp a at 0 holds 30;round r()round s(wait 38;light;)round t(wait 2;light;)", 9);
        Check.same("1", x.bestRound(0, 1), 0);
        Check.same("2", x.bestRound(0, 2), 0);
        Check.same("3", x.bestRound(0, 3), 2);
        Check.same("40", x.bestRound(0, 40), 2);
        LampLighters y = Books.street("lamp a at 0 holds 30;round r()round s(wait 39;light;)", 9);
        Check.same("39, 1 too few", y.bestRound(0, 39), 0);
        Check.same("40, just enough", y.bestRound(0, 40), 1);
    }

    private static void bestRoundOff() {
        Check.about("Promise 42: in quarters that are off all are as good");
        LampLighters off = Books.street(BOOK, 9);
        Books.passTo(off, 11);
        Check.same("off", off.bestRound(0, 40), 0);
        off.setClouds(true);
        Check.same("not off", off.bestRound(0, 20), 1);
    }

    private static void bestRoundBeginsAnew() {
        Check.about("Promise 42: the round that this one has is assigned now, too");
        // its wait would have ended soon
        LampLighters x = Books.begun("lamp a at 0 holds 9;round r(wait 9;light;)round s(wait 5;light;)", 0, 9);
        x.passQuarters(8);
        Check.same("bestRound", x.bestRound(0, 9), 1);
        Check.same("as it is", x.darkAfter(9), 1);
    }

    private static void bestRoundAsItComes() {
        Check.about("Promise 42: as it comes if the round is assigned now, amid any act");
        for (int ahead = 0; ahead < 40; ahead++) {
            for (int quarters : new int[] {1, 4, 9, 16, 25, 40}) {
                int lighter = (ahead + quarters) % 2;
                int best = 0;
                int fewest = Integer.MAX_VALUE;
                for (int round = 0; round < 3; round++) {
                    LampLighters x = busy(ahead);
                    x.assign(lighter, round);
                    int dark = x.passQuarters(quarters);
                    if (dark < fewest) {
                        best = round;
                        fewest = dark;
                    }
                }
                Check.same("of " + quarters + " behind " + ahead, busy(ahead).bestRound(lighter, quarters), best);
            }
        }
    }

    private static void bestRoundNoSuchLighter() {
        Check.about("Promise 42: IndexOutOfBoundsException if there is no such lighter");
        LampLighters x = Books.street(BOOK, 9);
        for (int wrong : new int[] {-1, 1, 3, Integer.MAX_VALUE, Integer.MIN_VALUE}) {
            Check.refuses("bestRound " + wrong, x, INDEX, () -> x.bestRound(wrong, 1));
        }
        LampLighters all = Books.street(BOOK, 9, 9, 9);
        Check.refuses("bestRound 3 of three", all, INDEX, () -> all.bestRound(3, 40));
        LampLighters none = Books.street(BOOK);
        Check.refuses("bestRound 0 of none", none, INDEX, () -> none.bestRound(0, 40));
    }

    private static void bestRoundWrongQuarters() {
        Check.about("Promise 42: IllegalArgumentException if quarters is not 1 to 40");
        LampLighters x = Books.street(BOOK, 9);
        for (int wrong : new int[] {0, -1, 41, 80, Integer.MAX_VALUE, Integer.MIN_VALUE}) {
            Check.refuses("bestRound 0 " + wrong, x, ARGUMENT, () -> x.bestRound(0, wrong));
        }
    }

    private static void bestRoundWithoutRounds() {
        Check.about("Promise 42: IllegalStateException if there are no rounds");
        LampLighters x = Books.street("lamp a at 0 holds 9;", 9);
        Check.refuses("of a book without rounds", x, STATE, () -> x.bestRound(0, 1));
        Check.refuses("40 of a book without rounds", x, STATE, () -> x.bestRound(0, 40));
        LampLighters none = new LampLighters();
        none.hire(9);
        Check.refuses("of a new object", none, STATE, () -> none.bestRound(0, 1));
        Books.teach(x, "round r()");
        Check.same("of a book with one", x.bestRound(0, 1), 0);
    }

    private static void bestRoundNamedFirst() {
        Check.about("Promise 42: no such lighter is named first, then wrong quarters, then that there are no rounds");
        LampLighters none = Books.street("lamp a at 0 holds 9;", 9);
        LampLighters x = Books.street(BOOK, 9);
        for (int wrong : new int[] {0, 41}) {
            Check.refuses("wrong quarters and no rounds", none, ARGUMENT, () -> none.bestRound(0, wrong));
            Check.refuses("all three", none, INDEX, () -> none.bestRound(1, wrong));
            Check.refuses("no such lighter and wrong quarters", x, INDEX, () -> x.bestRound(1, wrong));
            Check.refuses("the lighter -1 and wrong quarters", x, INDEX, () -> x.bestRound(-1, wrong));
        }
        Check.refuses("no such lighter and no rounds", none, INDEX, () -> none.bestRound(1, 1));
    }

    /** A street amid a night, with notes, lamps that burn, and acts that are begun in blocks. */
    private static LampLighters amid() {
        LampLighters x = Books.street("lamp a at 0 holds 9;lamp b at 3 holds 29;round r(note 1;do 3(go b;light;fill 3;go a;"
            + "light;note oil;))round s(do 9(note hour;wait 3;fill 2;))round t()", 9, 12, 5);
        x.assign(0, 0);
        x.assign(1, 1);
        x.passQuarters(11);
        x.fillLamp(0, 3);
        Books.feed(x, "lamp z at 5 holds 5;");
        return x;
    }

    private static void nothingIsChanged() {
        // Promises 39, 40 and 42: nothing is changed
        for (int i = 0; i < 3; i++) {
            int number = i;
            if (number < 2) {
                Check.about("Promise 39: nothing is changed");
                Twins.keeps("quartersUntilLit " + number, WouldBeTest::amid, x -> x.quartersUntilLit(number));
            }
            Check.about("Promise 40: nothing is changed");
            Twins.keeps("darkAfter", WouldBeTest::amid, x -> x.darkAfter(1 + number * 39));
            Check.about("Promise 42: nothing is changed");
            Twins.keeps("bestRound of " + number, WouldBeTest::amid, x -> x.bestRound(number, 40));
        }
        Check.about("Promises 39 to 44: nothing is changed by all of them");
        Twins.keeps("all", WouldBeTest::amid, x -> {
            for (int n = 0; n < 20; n++) {
                x.quartersUntilLit(1);
                x.darkAfter(80);
                x.bestRound(n % 3, 40);
                x.nightsUntilOff();
                x.meanOil();
                x.digest();
            }
        });
    }

    private static void meanOil() {
        Check.about("Promise 43: the mean oil of all lamps");
        LampLighters x = Books.street(BOOK);
        Check.same("at first", x.meanOil(), 19.0 / 3);
        x.lightLamp(0);
        x.lightLamp(2);
        x.passQuarters(4);
        Check.same("behind burning", x.meanOil(), 16.0 / 3);
        LampLighters y = Books.street("lamp a at 0 holds 1;");
        Check.same("of one", y.meanOil(), 1.0);
        y.lightLamp(0);
        y.passQuarters(2);
        Check.same("of one without oil", y.meanOil(), 0.0);
        Check.same("of ten", Books.street(Books.lamps(10)).meanOil(), 5.5);
    }

    private static void meanOilWithoutLamps() {
        Check.about("Promise 43: 0 without any");
        LampLighters x = new LampLighters();
        Check.same("of a new object", x.meanOil(), 0.0);
        Books.teach(x, "round r()");
        Check.same("of a book without lamps", x.meanOil(), 0.0);
        Books.teach(x, BOOK);
        x.teach();
        Check.same("of an empty book", x.meanOil(), 0.0);
    }

    private static void meanOilIsNoWholeNumber() {
        Check.about("Promise 43: a mean that is no whole number");
        Check.same("15.5", Books.street("lamp a at 0 holds 30;lamp b at 0 holds 1;").meanOil(), 15.5);
        Check.same("4 / 3", Books.street("lamp a at 0 holds 1;lamp b at 0 holds 1;lamp c at 0 holds 2;").meanOil(), 4.0 / 3);
    }

    private static long sum(long... all) {
        long d = 1901;
        for (long x : all) {
            d = d * 31 + x;
        }
        return d;
    }

    private static void digestOfANewObject() {
        Check.about("Promise 44: of a new object, and of one with a lighter without notes");
        LampLighters x = new LampLighters();
        Check.same("digest", x.digest(), sum(0, 0, 0, 0, 0, 0, 0, 0, 0, 0));
        x.hire(60);
        Check.same("digest with a lighter", x.digest(), sum(0, 0, 0, 0, 0, 0, 0, 0, 0, 1, 0, 60, -1, 1, 0, 0));
    }

    private static void digest() {
        Check.about("Promise 44: of lamps and lighters, the round -1 for none, true 1 and false 0");
        LampLighters x = Books.begun("lamp a at 2 holds 9;lamp b at 6 holds 8;round r(note 5;note lit;go a;light;wait 9;)"
            + "round s(note 9;)", 0, 9, 7);
        Check.same("digest at first", x.digest(), sum(2, 2, 6, 0, 0, 0, 0, 0, 0, 2,
            2, 9, 9, 10, 0, 0, 6, 8, 8, 10, 0, 0,
            0, 9, 0, 0, 0, 0, 0, 7, -1, 1, 0, 0));
        x.passQuarters(6);
        Check.same("digest of 6 quarters", x.digest(), sum(2, 2, 6, 1, 2, 0, 6, 0, 0, 2,
            2, 9, 7, 9, 1, 2, 6, 8, 8, 10, 0, 6,
            2, 9, 0, 0, 6, 2, -1, 5, 0, 7, -1, 1, 0, 0));
    }

    private static void digestOfANightThatIsOff() {
        Check.about("Promise 44: of a night that is off, moonlight and all");
        LampLighters y = new LampLighters();
        y.hire(3);
        Books.passTo(y, 12);
        Check.same("digest", y.digest(), sum(0, 0, 0, 0, 0, 12, 0, 12, 1, 1, 0, 3, -1, 1, 0, 0));
        y.setClouds(true);
        Check.same("digest under clouds", y.digest(), sum(0, 0, 0, 0, 0, 12, 0, 12, 0, 1, 0, 3, -1, 1, 0, 0));
    }

    private static void digestOfNotes() {
        Check.about("Promise 44: the notes from the latest one on, at most 20");
        LampLighters x = Books.begun("round r(do 22(note hour;)note 77;note 78;wait 9;)", 0, 9);
        x.passQuarters(1);
        Check.same("of 24", x.digest(), sum(0, 1, 5, 0, 0, 0, 1, 0, 0, 1,
            0, 9, 0, 0, 8, 24, 78, 77, 0, 0, 0, 0, 0, 0, 0, 0, 0, 0, 0, 0, 0, 0, 0, 0, 0, 0));
        for (int notes = 19; notes <= 21; notes++) {
            LampLighters y = Books.begun("round r(note 7;do " + (notes - 1) + "(note 8;)wait 9;)", 0, 9);
            y.passQuarters(1);
            long due = sum(0, 1, 4, 0, 0, 0, 1, 0, 0, 1, 0, 9, 0, 0, 8, notes);
            for (int back = 0; back < 20 && back < notes; back++) {
                due = due * 31 + (back == notes - 1 ? 7 : 8);
            }
            Check.same("of " + notes, y.digest(), due);
        }
    }

    private static void digestWrapsAround() {
        Check.about("Promise 44: wraps around as a 64-bit integer");
        LampLighters x = Books.street(Books.lamps(10) + "round r(note 99;)", 9);
        BigInteger d = BigInteger.valueOf(1901);
        long[] town = {10, 1, 1, 0, 0, 0, 0, 0, 0, 1};
        for (long number : town) {
            d = d.multiply(BigInteger.valueOf(31)).add(BigInteger.valueOf(number));
        }
        for (int i = 0; i < 10; i++) {
            for (long number : new long[] {i, i + 1, i + 1, 10, 0, 0}) {
                d = d.multiply(BigInteger.valueOf(31)).add(BigInteger.valueOf(number));
            }
        }
        for (long number : new long[] {0, 9, -1, 1, 0, 0}) {
            d = d.multiply(BigInteger.valueOf(31)).add(BigInteger.valueOf(number));
        }
        Check.same("the sum needs more than 64 bits", d.bitLength() > 64, true);
        Check.same("digest", x.digest(), d.longValue());
    }
}
