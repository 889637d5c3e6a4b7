/** Promises 39, 40 and 42 to 44: what would be, the best round, the mean oil and the digest. */
public final class WouldBeTest {
    private static final String BOOK = "lamp a at 2 holds 9;lamp b at 6 holds 9;lamp c at 20 holds 1;"
        + "round r(go b;light;go a;light;)round s(go a;light;go b;light;)round t()round u(go a;light;go b;light;)";

    private WouldBeTest() {
    }

    public static void main(String[] args) {
        untilLit();
        untilLitLate();
        untilLitNever();
        darkAfter();
        darkAfterWithCans();
        bestRound();
        bestRoundKeeps();
        bestRoundWrong();
        meanOil();
        digest();
        digestOfNotes();
        Check.end();
    }

    private static void untilLit() {
        LampLighters x = Books.begun(BOOK, 1, 9);
        long before = x.digest();
        Check.same("lamp a", x.quartersUntilLit(0), 3);
        Check.same("lamp b", x.quartersUntilLit(1), 8);
        Check.same("lamp c", x.quartersUntilLit(2), -1);
        Check.same("nothing is changed", x.digest(), before);
        x.passQuarters(2);
        Check.same("lamp a then", x.quartersUntilLit(0), 1);
        x.passQuarters(1);
        Check.same("lamp a now", x.quartersUntilLit(0), 0);
        Check.same("lamp b then", x.quartersUntilLit(1), 5);
        x.passQuarters(5);
        Check.same("lamp b now", x.quartersUntilLit(1), 0);
        LampLighters none = Books.street(BOOK);
        none.lightLamp(2);
        Check.same("lit by hand", none.quartersUntilLit(2), 0);
        Check.same("without lighters", none.quartersUntilLit(0), -1);
    }

    private static void untilLitLate() {
        LampLighters x = Books.begun("lamp a at 0 holds 9;round r(wait 39;light;)", 0, 9);
        Check.same("the last quarter of a night ends at dawn", x.quartersUntilLit(0), -1);
        LampLighters y = Books.begun("lamp a at 0 holds 9;round r(wait 38;light;)", 0, 9);
        Check.same("the one ahead of it", y.quartersUntilLit(0), 39);
        // moon is 0 in the night 0 and 1 in the night 1
        LampLighters z = Books.begun("lamp a at 0 holds 9;round r(if moon=1(wait 38;light;))", 0, 9);
        Check.same("in the next night", z.quartersUntilLit(0), 79);
        LampLighters v = Books.begun("lamp a at 0 holds 9;round r(if moon=2(light;))", 0, 9);
        Check.same("81 quarters", v.quartersUntilLit(0), -1);
        v.passQuarters(1);
        Check.same("80 quarters", v.quartersUntilLit(0), 80);
        v.passQuarters(1);
        Check.same("79 quarters", v.quartersUntilLit(0), 79);
    }

    private static void untilLitNever() {
        // its clock is even behind the quarter in which it is lit: its last oil is burnt at once
        LampLighters x = Books.begun("lamp a at 0 holds 1;round r(wait 3;light;)", 0, 9);
        x.lightLamp(0);
        x.passQuarters(1);
        x.douseLamp(0);
        Check.same("lit and out in one quarter", x.quartersUntilLit(0), -1);
        LampLighters off = Books.street("lamp a at 0 holds 9;round r(light;)", 9);
        off.passNights(5);
        off.passNights(5);
        off.passNights(1);
        off.assign(0, 0);
        Check.same("in quarters that are off", off.quartersUntilLit(0), -1);
        off.setClouds(true);
        Check.same("under clouds", off.quartersUntilLit(0), 1);
        off.setClouds(false);
        off.passNights(5);
        off.passNights(1);
        Check.same("81 quarters ahead", off.quartersUntilLit(0), -1);
        off.passNights(1);
        Check.same("41 quarters ahead", off.quartersUntilLit(0), 41);
    }

    private static void darkAfter() {
        LampLighters x = Books.begun(BOOK, 1, 9);
        for (int wrong : new int[] {0, -1, 81, Integer.MAX_VALUE, Integer.MIN_VALUE}) {
            Check.refuses("darkAfter " + wrong, x, IllegalArgumentException.class, () -> x.darkAfter(wrong));
        }
        long before = x.digest();
        Check.same("darkAfter 1", x.darkAfter(1), 3);
        Check.same("darkAfter 3", x.darkAfter(3), 8);
        Check.same("darkAfter 8", x.darkAfter(8), 17);
        Check.same("once more", x.darkAfter(8), 17);
        int forty = x.darkAfter(40);
        int eighty = x.darkAfter(80);
        Check.same("nothing is changed", x.digest(), before);
        Check.same("as it comes", x.passNights(1), forty);
        Check.same("as it comes further", x.passNights(1), eighty - forty);
        Check.same("of no lamps", new LampLighters().darkAfter(80), 0);
    }

    private static void darkAfterWithCans() {
        LampLighters x = Books.street("lamp a at 0 holds 2;round r(fill 2;light;)", 2);
        x.lightLamp(0);
        x.passQuarters(4);
        x.assign(0, 0);
        Check.same("darkAfter with a full can", x.darkAfter(5), 1);
        Check.same("quartersUntilLit with a full can", x.quartersUntilLit(0), 2);
        x.passQuarters(5);
        x.assign(0, 0);
        Check.same("darkAfter with an empty can", x.darkAfter(30), 30);
        Check.same("quartersUntilLit with an empty can, till behind dawn", x.quartersUntilLit(0), 33);
        Check.same("darkAfter with a full can at dawn", x.darkAfter(40), 32 + 4);
    }

    private static void bestRound() {
        LampLighters x = Books.street(BOOK, 9, 9);
        long before = x.digest();
        Check.same("at once none is better", x.bestRound(0, 2), 0);
        Check.same("the nearest lamp first", x.bestRound(0, 3), 1);
        Check.same("of several the smallest", x.bestRound(0, 9), 1);
        Check.same("for the other one as well", x.bestRound(1, 20), 1);
        Check.same("both lamps burn all their oil in 40", x.bestRound(1, 40), 0);
        Check.same("nothing is changed", x.digest(), before);
        Check.same("no round is assigned", x.hasRound(0), false);
        x.assign(1, 1);
        Check.same("with what the other does", x.bestRound(0, 7), 0);
        Check.same("and all is done", x.bestRound(0, 3), 0);
        LampLighters off = Books.street(BOOK, 9);
        off.passNights(5);
        off.passNights(5);
        off.passNights(1);
        Check.same("off", off.bestRound(0, 40), 0);
        off.setClouds(true);
        Check.same("not off", off.bestRound(0, 20), 1);
    }

    private static void bestRoundKeeps() {
        // the round that this one has begins anew too: its wait would have ended soon
        LampLighters x = Books.begun("lamp a at 0 holds 9;round r(wait 9;light;)round s(wait 5;light;)", 0, 9);
        x.passQuarters(8);
        long before = x.digest();
        Check.same("anew", x.bestRound(0, 9), 1);
        Check.same("the act goes on", x.digest(), before);
        Check.same("only as it is assigned now", x.darkAfter(9), 1);
        LampLighters y = Books.begun("lamp a at 5 holds 9;round r(light;)round s(go a;light;)", 1, 9);
        y.passQuarters(6);
        y.douseLamp(0);
        Check.same("from where this one is", y.bestRound(0, 9), 0);
        LampLighters z = Books.begun("lamp a at 5 holds 9;round r(light;)round s(go a;light;)", 1, 9);
        Check.same("also the one that this one has", z.bestRound(0, 9), 1);
    }

    private static void bestRoundWrong() {
        LampLighters none = Books.street("lamp a at 0 holds 9;", 9);
        Check.refuses("no rounds", none, IllegalStateException.class, () -> none.bestRound(0, 1));
        Check.refuses("no rounds, 41", none, IllegalArgumentException.class, () -> none.bestRound(0, 41));
        Check.refuses("no rounds, no lighter", none, IndexOutOfBoundsException.class, () -> none.bestRound(1, 1));
        LampLighters x = Books.street(BOOK, 9);
        for (int wrong : new int[] {0, -1, 41, Integer.MAX_VALUE, Integer.MIN_VALUE}) {
            Check.refuses("bestRound 0 " + wrong, x, IllegalArgumentException.class, () -> x.bestRound(0, wrong));
            Check.refuses("bestRound 1 " + wrong, x, IndexOutOfBoundsException.class, () -> x.bestRound(1, wrong));
        }
        for (int wrong : new int[] {-1, 1, 3, Integer.MAX_VALUE, Integer.MIN_VALUE}) {
            Check.refuses("bestRound " + wrong, x, IndexOutOfBoundsException.class, () -> x.bestRound(wrong, 1));
        }
    }

    private static void meanOil() {
        Check.same("meanOil without lamps", new LampLighters().meanOil(), 0.0);
        LampLighters x = Books.street(BOOK);
        Check.same("meanOil at first", x.meanOil(), 19.0 / 3);
        x.lightLamp(0);
        x.lightLamp(2);
        x.passQuarters(4);
        Check.same("meanOil behind burning", x.meanOil(), 16.0 / 3);
        Books.teach(x, "lamp a at 0 holds 30;");
        Check.same("meanOil of one", x.meanOil(), 30.0);
        Books.teach(x, "lamp a at 0 holds 30;lamp b at 0 holds 1;");
        Check.same("meanOil of two", x.meanOil(), 15.5);
    }

    private static long sum(long... all) {
        long d = 1901;
        for (long x : all) {
            d = d * 31 + x;
        }
        return d;
    }

    private static void digest() {
        Check.same("digest of a new object", new LampLighters().digest(), sum(0, 0, 0, 0, 0, 0, 0, 0, 0, 0));
        LampLighters x = Books.begun("lamp a at 2 holds 9;lamp b at 6 holds 8;round r(note 5;note lit;go a;light;wait 9;)"
            + "round s(note 9;)", 0, 9, 7);
        Check.same("digest at first", x.digest(), sum(2, 2, 6, 0, 0, 0, 0, 0, 0, 2,
            2, 9, 9, 10, 0, 0, 6, 8, 8, 10, 0, 0,
            0, 9, 0, 0, 0, 0, 0, 7, -1, 1, 0, 0));
        x.passQuarters(6);
        Check.same("digest of 6 quarters", x.digest(), sum(2, 2, 6, 1, 2, 0, 6, 0, 0, 2,
            2, 9, 7, 9, 1, 2, 6, 8, 8, 10, 0, 6,
            2, 9, 0, 0, 6, 2, -1, 5, 0, 7, -1, 1, 0, 0));
        LampLighters y = new LampLighters();
        y.hire(3);
        y.passNights(5);
        y.passNights(5);
        y.passNights(2);
        Check.same("digest of a night that is off", y.digest(), sum(0, 0, 0, 0, 0, 12, 0, 12, 1, 1, 0, 3, -1, 1, 0, 0));
    }

    private static void digestOfNotes() {
        LampLighters x = Books.begun("round r(do 22(note hour;)note 77;note 78;wait 9;)", 0, 9);
        x.passQuarters(1);
        Check.same("digest of 24 notes", x.digest(), sum(0, 1, 5, 0, 0, 0, 1, 0, 0, 1,
            0, 9, 0, 0, 8, 24, 78, 77, 0, 0, 0, 0, 0, 0, 0, 0, 0, 0, 0, 0, 0, 0, 0, 0, 0, 0));
    }
}
