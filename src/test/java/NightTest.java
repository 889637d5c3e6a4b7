/** Promises 13, 14, 26 to 29 and 41, and of "Terms" how a quarter goes: quarters, nights, dawn and the moon. */
public final class NightTest {
    private static final Class<IllegalArgumentException> ARGUMENT = IllegalArgumentException.class;

    private NightTest() {
    }

    public static void main(String[] args) {
        passQuarters();
        passQuartersWrong();
        passNights();
        passNightsWrong();
        passWithoutLamps();
        passWithAllLamps();
        passOverDawn();
        quarterOfTheNight();
        manyNights();
        moonlight();
        moonlightTurns();
        isOff();
        offUnderClouds();
        offNobodyWorks();
        offNothingIsDark();
        offLampsBurn();
        offDawn();
        partlyOff();
        dawnLamps();
        dawnLighters();
        dawnWithoutARound();
        dawnBehindGivingUp();
        dawnOfTheLastQuarter();
        workByNumbers();
        workAheadOfDark();
        workAheadOfBurning();
        nightsUntilOff();
        nightsUntilOffOfEachNight();
        Check.end();
    }

    private static LampLighters twoLamps() {
        return Books.street("lamp a at 0 holds 9;lamp b at 1 holds 9;");
    }

    private static void passQuarters() {
        Check.about("Promise 13: 1 to 40 quarters go by; returns for how many quarters lamps are dark in them");
        LampLighters x = twoLamps();
        Check.same("1 quarter", x.passQuarters(1), 2);
        Check.same("the quarter", x.quarter(), 1);
        Check.same("38 quarters", x.passQuarters(38), 76);
        Check.same("the quarter then", x.quarter(), 39);
        Check.same("40 quarters", x.passQuarters(40), 80);
        Check.same("the same quarter", x.quarter(), 39);
        Check.same("of the next night", x.night(), 1);
        x.lightLamp(1);
        Check.same("one of them lit", x.passQuarters(1), 1);
    }

    private static void passQuartersWrong() {
        Check.about("Promise 13: IllegalArgumentException if quarters is not 1 to 40");
        LampLighters x = twoLamps();
        for (int wrong : new int[] {0, -1, 41, 42, Integer.MAX_VALUE, Integer.MIN_VALUE}) {
            Check.refuses("passQuarters " + wrong, x, ARGUMENT, () -> x.passQuarters(wrong));
        }
        Check.same("nothing went by", x.quarter() + x.night(), 0);
    }

    private static void passNights() {
        Check.about("Promise 14: 40 quarters for each of 1 to 5 nights; returns for how many lamps are dark in them");
        LampLighters x = twoLamps();
        x.passQuarters(5);
        Check.same("1 night", x.passNights(1), 80);
        Check.same("the night", x.night(), 1);
        Check.same("the quarter stays", x.quarter(), 5);
        Check.same("5 nights", x.passNights(5), 400);
        Check.same("the night then", x.night(), 6);
        Check.same("the quarter stays then", x.quarter(), 5);
        Check.same("darkOf in all", x.darkOf(0), 245);
    }

    private static void passNightsWrong() {
        Check.about("Promise 14: IllegalArgumentException if nights is not 1 to 5");
        LampLighters x = twoLamps();
        for (int wrong : new int[] {0, -1, 6, 7, 40, Integer.MAX_VALUE, Integer.MIN_VALUE}) {
            Check.refuses("passNights " + wrong, x, ARGUMENT, () -> x.passNights(wrong));
        }
        Check.same("nothing went by", x.quarter() + x.night(), 0);
    }

    private static void passWithoutLamps() {
        Check.about("Promises 13 and 14: without lamps none is dark, but time goes by");
        LampLighters x = new LampLighters();
        Check.same("passQuarters", x.passQuarters(40), 0);
        Check.same("passNights", x.passNights(5), 0);
        Check.same("night", x.night(), 6);
        Check.same("quarter", x.quarter(), 0);
    }

    private static void passWithAllLamps() {
        Check.about("Promises 13 and 14: all lamps added, of ten");
        LampLighters x = Books.street(Books.lamps(10));
        Check.same("passQuarters", x.passQuarters(40), 400);
        Check.same("passNights", x.passNights(5), 2000);
        for (int i = 0; i < 10; i++) {
            Check.same("darkOf " + i, x.darkOf(i), 240);
            x.lightLamp(i);
        }
        Check.same("all lit", x.passQuarters(1), 0);
    }

    private static void passOverDawn() {
        Check.about("Promises 13 and 14: quarters on both sides of dawn");
        LampLighters x = twoLamps();
        x.passQuarters(30);
        x.lightLamp(0);
        Check.same("passQuarters", x.passQuarters(12), 10 + 4);
        Check.same("quarter", x.quarter(), 2);
        Check.same("night", x.night(), 1);
    }

    private static void quarterOfTheNight() {
        Check.about("Promises 26 and 27, and Terms: a night has 40 quarters, 0 to 39; nights are counted from 0");
        LampLighters x = new LampLighters();
        for (int n = 0; n < 130; n++) {
            Check.same("quarter behind " + n, x.quarter(), n % 40);
            Check.same("night behind " + n, x.night(), n / 40);
            x.passQuarters(1);
        }
    }

    private static void manyNights() {
        Check.about("What it is, and promise 26: an object is used for 512 calls, of which the last answers as the first");
        LampLighters x = new LampLighters();
        for (int n = 0; n < 508; n++) {
            x.passNights(5);
        }
        Check.same("night", x.night(), 2540);
        Check.same("quarter", x.quarter(), 0);
        Check.same("moonlight", x.moonlight(), 9);
        Check.same("nightsUntilOff", x.nightsUntilOff(), 21);
    }

    private static void moonlight() {
        Check.about("Promise 28, and Terms: the remainder by 30, if that is less than 15, otherwise 29 less it");
        LampLighters x = new LampLighters();
        for (int night = 0; night < 95; night++) {
            int r = night % 30;
            Check.same("moonlight of " + night, x.moonlight(), r < 15 ? r : 29 - r);
            x.passNights(1);
        }
    }

    private static void moonlightTurns() {
        Check.about("Promise 28, and Terms: the moonlight where it turns");
        int[] nights = {0, 1, 13, 14, 15, 16, 28, 29, 30, 31, 44, 45, 59, 60};
        int[] due = {0, 1, 13, 14, 14, 13, 1, 0, 0, 1, 14, 14, 0, 0};
        LampLighters x = new LampLighters();
        for (int i = 0; i < nights.length; i++) {
            Books.passTo(x, nights[i]);
            Check.same("moonlight of " + nights[i], x.moonlight(), due[i]);
            x.passQuarters(39);
            Check.same("and of its last quarter", x.moonlight(), due[i]);
        }
    }

    private static void isOff() {
        Check.about("Promise 29, and Terms: off, if the moonlight is 11 or more");
        int[] nights = {0, 10, 11, 14, 15, 18, 19, 29, 30, 40, 41, 48, 49};
        int[] due = {0, 0, 1, 1, 1, 1, 0, 0, 0, 0, 1, 1, 0};
        LampLighters x = Books.street("lamp a at 0 holds 1;");
        for (int i = 0; i < nights.length; i++) {
            Books.passTo(x, nights[i]);
            Check.same("isOff in " + nights[i], x.isOff(), due[i] == 1);
            Check.same("dark in " + nights[i], x.passQuarters(39), 39 - 39 * due[i]);
            Check.same("isOff in the last quarter of " + nights[i], x.isOff(), due[i] == 1);
        }
    }

    private static void offUnderClouds() {
        Check.about("Promise 29, and Terms: not off, if the sky is cloudy");
        LampLighters x = Books.street("lamp a at 0 holds 1;");
        x.setClouds(true);
        for (int night = 0; night < 31; night++) {
            Check.same("isOff in " + night, x.isOff(), false);
            Check.same("dark in " + night, x.passNights(1), 40);
        }
        Books.passTo(x, 44);
        x.setClouds(false);
        Check.same("isOff as the sky is clear", x.isOff(), true);
        x.setClouds(true);
        Check.same("isOff as it is cloudy", x.isOff(), false);
    }

    private static LampLighters offNight(String text, int... cans) {
        LampLighters x = Books.street(text, cans);
        Books.passTo(x, 11);
        return x;
    }

    private static void offNobodyWorks() {
        Check.about("Terms, a quarter: if it is off, lighters don't work, and what is begun waits");
        LampLighters x = offNight("lamp a at 2 holds 30;round r(note hour;go a;light;)", 9);
        x.assign(0, 0);
        x.passQuarters(3);
        Check.same("notesOf", x.notesOf(0), 0);
        Check.same("busyOf", x.busyOf(0), 0);
        Check.same("isDone", x.isDone(0), false);
        x.setClouds(true);
        x.passQuarters(1);
        Check.same("notesOf under clouds", x.notesOf(0), 1);
        Check.same("the hour was noted", x.noteOf(0, 0), 3);
        Check.same("busyOf under clouds", x.busyOf(0), 1);
        x.setClouds(false);
        x.passQuarters(5);
        Check.same("what is begun waits", x.busyOf(0), 1);
        Check.same("placeOf", x.placeOf(0), 0);
        x.setClouds(true);
        x.passQuarters(1);
        Check.same("what is begun goes on", x.placeOf(0), 2);
        x.setClouds(false);
        x.passQuarters(1);
        Check.same("nothing is lit", x.litLamps(), 0);
        x.setClouds(true);
        x.passQuarters(1);
        Check.same("but under clouds", x.litLamps(), 1);
    }

    private static void offNothingIsDark() {
        Check.about("Terms, a quarter: if it is off, no lamp is dark");
        LampLighters x = offNight("lamp a at 2 holds 30;lamp b at 3 holds 9;");
        Check.same("darkOf ahead", x.darkOf(0), 440);
        Check.same("passQuarters", x.passQuarters(40), 0);
        Check.same("passNights", x.passNights(5), 0);
        Check.same("darkOf", x.darkOf(0), 440);
        Check.same("darkOf the other", x.darkOf(1), 440);
        x.setClouds(true);
        Check.same("under clouds", x.passQuarters(2), 4);
        Check.same("darkOf under clouds", x.darkOf(0), 442);
    }

    private static void offLampsBurn() {
        Check.about("Terms, a quarter: lamps that are lit burn, also if it is off");
        LampLighters x = offNight("lamp a at 2 holds 2;");
        x.lightLamp(0);
        x.passQuarters(2);
        Check.same("oilOf", x.oilOf(0), 1);
        x.passQuarters(2);
        Check.same("wickOf", x.wickOf(0), 9);
        Check.same("isLit", x.isLit(0), false);
        Check.same("oilBurnt", x.oilBurnt(), 2);
        Check.same("dark of that night", x.passQuarters(10), 0);
    }

    private static void offDawn() {
        Check.about("Terms, a quarter: it is dawn also behind a night that is off");
        LampLighters x = offNight("lamp a at 2 holds 30;round r(go a;fill 5;wait 90;)", 9);
        x.assign(0, 0);
        x.lightLamp(0);
        x.passQuarters(10);
        x.setClouds(true);
        x.passQuarters(5);
        x.setClouds(false);
        x.lightLamp(0);
        x.passQuarters(24);
        Check.same("placeOf ahead", x.placeOf(0), 2);
        Check.same("canOf ahead", x.canOf(0), 4);
        Check.same("busyOf ahead", x.busyOf(0), 88);
        Check.same("isLit ahead", x.isLit(0), true);
        x.passQuarters(1);
        Check.same("night", x.night(), 12);
        Check.same("placeOf", x.placeOf(0), 0);
        Check.same("canOf", x.canOf(0), 9);
        Check.same("busyOf", x.busyOf(0), 0);
        Check.same("isDone", x.isDone(0), false);
        Check.same("isLit", x.isLit(0), false);
    }

    private static void partlyOff() {
        Check.about("Terms, a quarter: off goes by the night of each quarter");
        LampLighters x = Books.street("lamp a at 2 holds 2;");
        Books.passTo(x, 10);
        x.passQuarters(30);
        Check.same("into the first night that is off", x.passQuarters(40), 10);
        Books.passTo(x, 18);
        x.passQuarters(10);
        Check.same("out of the last one", x.passQuarters(40), 10);
        Check.same("night", x.night(), 19);
        LampLighters y = Books.begun("lamp a at 2 holds 2;round r(note moon;)", 0, 9);
        Books.passTo(y, 20);
        Check.same("12 nights of work", y.notesOf(0), 12);
        Check.same("the last one", y.noteOf(0, 0), 10);
        Check.same("the one ahead of those that are off", y.noteOf(0, 1), 10);
        Check.same("the one ahead of it", y.noteOf(0, 2), 9);
    }

    private static void dawnLamps() {
        Check.about("Terms, a quarter: at dawn no lamp is lit any more; what else they have stays");
        LampLighters x = Books.street("lamp a at 2 holds 30;lamp b at 9 holds 30;lamp c at 9 holds 9;");
        x.passQuarters(35);
        x.lightLamp(0);
        x.lightLamp(1);
        x.passQuarters(4);
        Check.same("litLamps ahead of dawn", x.litLamps(), 2);
        x.passQuarters(1);
        Check.same("litLamps", x.litLamps(), 0);
        Check.same("oilOf", x.oilOf(0), 28);
        Check.same("wickOf", x.wickOf(0), 9);
        Check.same("darkOf", x.darkOf(0), 35);
        Check.same("oilBurnt", x.oilBurnt(), 4);
        Check.same("they are dark then", x.passQuarters(1), 3);
    }

    private static void dawnLighters() {
        Check.about("Terms, a quarter: at dawn each lighter is at the post 0, has a full can, begins the round anew");
        LampLighters x = Books.street("lamp a at 2 holds 30;lamp b at 9 holds 30;"
            + "round r(note hour;go a;light;fill 5;go b;fill 99;wait 3;fill 9;wait 90;)round s(wait 39;go b;)", 9, 8);
        x.lightLamp(1);
        x.assign(0, 0);
        x.assign(1, 1);
        x.passQuarters(39);
        Check.same("placeOf ahead of dawn", x.placeOf(0), 9);
        Check.same("canOf ahead of dawn", x.canOf(0) < 9, true);
        Check.same("busyOf ahead of dawn", x.busyOf(0) > 0, true);
        x.passQuarters(1);
        int[] cans = {9, 8};
        for (int i = 0; i < 2; i++) {
            Check.same("placeOf", x.placeOf(i), 0);
            Check.same("canOf", x.canOf(i), cans[i]);
            Check.same("busyOf", x.busyOf(i), 0);
            Check.same("roundOf", x.roundOf(i), i);
            Check.same("isDone", x.isDone(i), false);
        }
        Check.same("notesOf is kept", x.notesOf(0), 1);
        x.passQuarters(1);
        Check.same("the first act once more", x.notesOf(0), 2);
        Check.same("on the way once more", x.busyOf(0), 1);
        Check.same("the other waits once more", x.busyOf(1), 38);
    }

    private static void dawnWithoutARound() {
        Check.about("Terms, a quarter: at dawn a lighter without a round begins none");
        LampLighters x = Books.street("lamp a at 2 holds 30;round r(note 1;)", 5, 6);
        x.assign(1, 0);
        x.passNights(1);
        Check.same("isDone", x.isDone(0), true);
        Check.same("hasRound", x.hasRound(0), false);
        x.passQuarters(5);
        Check.same("notesOf", x.notesOf(0), 0);
        Check.same("notesOf the other", x.notesOf(1), 2);
    }

    private static void dawnBehindGivingUp() {
        Check.about("Terms, a quarter: at dawn the round is begun anew also by one who is done, or gave up");
        LampLighters x = Books.street("round r(note 1;)round s(do 50(note 2;))round t()", 5, 6, 7);
        for (int i = 0; i < 3; i++) {
            x.assign(i, i);
        }
        x.passQuarters(39);
        Check.same("all are done", x.isDone(0) && x.isDone(1) && x.isDone(2), true);
        Check.same("notes of one who gave up", x.notesOf(1), 29);
        x.passQuarters(1);
        Check.same("isDone", x.isDone(0), false);
        Check.same("isDone of one who gave up", x.isDone(1), false);
        Check.same("isDone with a round without acts", x.isDone(2), true);
        x.passQuarters(2);
        Check.same("notesOf", x.notesOf(0), 2);
        Check.same("notesOf one who gave up", x.notesOf(1), 58);
    }

    private static void dawnOfTheLastQuarter() {
        Check.about("Terms, a quarter: what is done in the quarter 39 is done, and it is dawn behind it");
        LampLighters x = Books.begun("lamp a at 0 holds 30;round r(wait 39;light;)round s(wait 39;note hour;go a;fill 9;)",
            0, 9);
        Check.same("the lamp is lit in it", x.passNights(1), 39);
        Check.same("but not behind it", x.isLit(0), false);
        x.assign(0, 1);
        x.passQuarters(39);
        Check.same("notesOf ahead", x.notesOf(0), 0);
        Check.same("busyOf ahead", x.busyOf(0), 0);
        x.passQuarters(1);
        Check.same("notesOf", x.notesOf(0), 1);
        Check.same("the hour", x.noteOf(0, 0), 39);
        x.passQuarters(1);
        Check.same("the round is begun anew", x.busyOf(0), 38);
    }

    private static void workByNumbers() {
        Check.about("Terms, a quarter: lighters work by numbers, one behind the other");
        String book = "lamp a at 0 holds 9;round p(light;note lit;)round q(douse;note lit;)";
        LampLighters x = Books.street(book, 5, 5);
        x.assign(0, 1);
        x.assign(1, 0);
        Check.same("lit by the second one", x.passQuarters(1), 0);
        Check.same("isLit", x.isLit(0), true);
        LampLighters y = Books.street(book, 5, 5);
        y.assign(0, 0);
        y.assign(1, 1);
        Check.same("doused by the second one", y.passQuarters(1), 1);
        Check.same("isLit then", y.isLit(0), false);
        LampLighters z = Books.street("lamp a at 0 holds 9;round p(light;)round q(note lit;wait 1;note lit;)", 5, 5, 5);
        z.assign(0, 1);
        z.assign(1, 0);
        z.assign(2, 1);
        z.passQuarters(1);
        Check.same("one ahead sees it not lit", z.noteOf(0, 0), 0);
        Check.same("one behind sees it lit", z.noteOf(2, 0), 1);
    }

    private static void workAheadOfDark() {
        Check.about("Terms, a quarter: a lamp that is lit, or put out, in it isn't dark, or is, in this quarter");
        LampLighters x = Books.begun("lamp a at 0 holds 9;round r(light;douse;)", 0, 5);
        Check.same("lit in it", x.passQuarters(1), 0);
        Check.same("put out in it", x.passQuarters(1), 1);
        Check.same("darkOf", x.darkOf(0), 1);
    }

    private static void workAheadOfBurning() {
        Check.about("Terms, a quarter: lighters work ahead of burning, and a lamp lit in it burns in it");
        LampLighters x = Books.begun("lamp a at 0 holds 9;round r(wait 3;light;light;)", 0, 5);
        x.passQuarters(5);
        Check.same("it burnt in both", x.oilOf(0), 8);
        LampLighters z = Books.street("lamp a at 0 holds 1;round r(fill 1;)", 5);
        z.lightLamp(0);
        z.passQuarters(1);
        z.assign(0, 0);
        z.passQuarters(1);
        Check.same("no room is there ahead of burning", z.canOf(0), 5);
        Check.same("and out it goes", z.isLit(0), false);
        Check.same("it wasn't dark in that quarter", z.darkOf(0), 0);
    }

    private static void nightsUntilOff() {
        Check.about("Promise 41: behind how many nights the moonlight is 11 or more, 0 if it is in this one");
        int[] nights = {0, 10, 11, 18, 19, 29, 30, 40, 41, 48, 49};
        int[] due = {11, 1, 0, 0, 22, 12, 11, 1, 0, 0, 22};
        LampLighters x = new LampLighters();
        for (int i = 0; i < nights.length; i++) {
            Books.passTo(x, nights[i]);
            Check.same("nightsUntilOff in " + nights[i], x.nightsUntilOff(), due[i]);
            x.passQuarters(39);
            Check.same("and in its last quarter", x.nightsUntilOff(), due[i]);
        }
    }

    private static void nightsUntilOffOfEachNight() {
        Check.about("Promise 41: of each night, whether the sky is clear or not");
        LampLighters x = new LampLighters();
        for (int night = 0; night < 95; night++) {
            int r = night % 30;
            int until = r < 11 ? 11 - r : r < 19 ? 0 : 41 - r;
            x.setClouds(false);
            Check.same("under a clear sky in " + night, x.nightsUntilOff(), until);
            x.setClouds(true);
            Check.same("under clouds in " + night, x.nightsUntilOff(), until);
            x.passNights(1);
        }
    }
}
