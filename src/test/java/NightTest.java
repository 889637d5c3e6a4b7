/** Promises 13, 14, 26 to 29 and 41: quarters, nights, dawn and the moon. */
public final class NightTest {
    private static final int[] WRONG = {0, -1, Integer.MAX_VALUE, Integer.MIN_VALUE};

    private NightTest() {
    }

    public static void main(String[] args) {
        passing();
        wrongTimes();
        moon();
        offQuarters();
        offAndBurning();
        dawn();
        order();
        Check.end();
    }

    private static void passing() {
        LampLighters x = Books.street("lamp a at 0 holds 9;lamp b at 1 holds 9;");
        Check.same("one quarter", x.passQuarters(1), 2);
        Check.same("the quarter", x.quarter(), 1);
        Check.same("38 quarters", x.passQuarters(38), 76);
        Check.same("the last quarter", x.quarter(), 39);
        Check.same("the night", x.night(), 0);
        x.passQuarters(1);
        Check.same("the first quarter", x.quarter(), 0);
        Check.same("the next night", x.night(), 1);
        Check.same("40 quarters", x.passQuarters(40), 80);
        Check.same("night 2", x.night(), 2);
        x.passQuarters(5);
        Check.same("a night", x.passNights(1), 80);
        Check.same("night 3", x.night(), 3);
        Check.same("its quarter", x.quarter(), 5);
        Check.same("5 nights", x.passNights(5), 400);
        Check.same("night 8", x.night(), 8);
        Check.same("the quarter stays", x.quarter(), 5);
        Check.same("darkOf in all", x.darkOf(0), 325);
    }

    private static void wrongTimes() {
        LampLighters x = Books.street("lamp a at 0 holds 9;");
        for (int wrong : WRONG) {
            Check.refuses("passQuarters " + wrong, x, IllegalArgumentException.class, () -> x.passQuarters(wrong));
            Check.refuses("passNights " + wrong, x, IllegalArgumentException.class, () -> x.passNights(wrong));
        }
        Check.refuses("passQuarters 41", x, IllegalArgumentException.class, () -> x.passQuarters(41));
        Check.refuses("passNights 6", x, IllegalArgumentException.class, () -> x.passNights(6));
    }

    private static void moon() {
        LampLighters x = new LampLighters();
        for (int night = 0; night < 95; night++) {
            int r = night % 30;
            int moon = r < 15 ? r : 29 - r;
            Check.same("night", x.night(), night);
            Check.same("moonlight of " + night, x.moonlight(), moon);
            Check.same("isOff in " + night, x.isOff(), moon >= 11);
            int until = r < 11 ? 11 - r : r < 19 ? 0 : 41 - r;
            Check.same("nightsUntilOff in " + night, x.nightsUntilOff(), until);
            x.setClouds(true);
            Check.same("isOff under clouds in " + night, x.isOff(), false);
            Check.same("nightsUntilOff under clouds in " + night, x.nightsUntilOff(), until);
            x.setClouds(false);
            x.passNights(1);
        }
    }

    private static void offQuarters() {
        LampLighters x = Books.street("lamp a at 2 holds 30;round r(note hour;go a;light;)", 9);
        x.passNights(5);
        x.passNights(5);
        x.passNights(1);
        x.assign(0, 0);
        int dark = x.darkOf(0);
        int notes = x.notesOf(0);
        Check.same("off", x.isOff(), true);
        Check.same("no dark in quarters that are off", x.passQuarters(3), 0);
        Check.same("darkOf then", x.darkOf(0), dark);
        Check.same("nobody works", x.notesOf(0), notes);
        Check.same("busyOf then", x.busyOf(0), 0);
        Check.same("isDone then", x.isDone(0), false);
        x.setClouds(true);
        Check.same("dark under clouds", x.passQuarters(1), 1);
        Check.same("work under clouds", x.notesOf(0), notes + 1);
        Check.same("busy under clouds", x.busyOf(0), 1);
        x.setClouds(false);
        Check.same("off once more", x.passQuarters(5), 0);
        Check.same("what was begun waits", x.busyOf(0), 1);
        Check.same("the place then", x.placeOf(0), 0);
        x.setClouds(true);
        Check.same("what was begun goes on", x.passQuarters(1), 1);
        Check.same("it ends", x.placeOf(0), 2);
        Check.same("the lamp is lit", x.passQuarters(1), 0);
        Check.same("the hour was noted", x.noteOf(0, 0), 3);
        x.setClouds(false);
        Check.same("eight nights are off", x.passNights(5) + x.passNights(2), 0);
        Check.same("the last one that is off", x.isOff(), true);
        // in the first quarters of the night 19 the lamp isn't lit yet
        x.passQuarters(40 - x.quarter());
        Check.same("night 19", x.night(), 19);
        Check.same("not off", x.isOff(), false);
        Check.same("they work", x.passQuarters(5), 2);
    }

    private static void offAndBurning() {
        LampLighters x = Books.street("lamp a at 2 holds 2;");
        x.passNights(5);
        x.passNights(5);
        x.passNights(1);
        x.lightLamp(0);
        x.passQuarters(2);
        Check.same("lamps burn in quarters that are off", x.oilOf(0), 1);
        x.passQuarters(2);
        Check.same("and go out", x.isLit(0), false);
        Check.same("oil burnt then", x.oilBurnt(), 2);
        Check.same("dark of that night", x.passQuarters(10), 0);
        Check.same("into the next one", x.passNights(5) + x.passNights(2), 0);
        Check.same("only some of it off", x.passNights(1), 14);
    }

    private static void dawn() {
        LampLighters x = Books.begun("lamp a at 2 holds 30;lamp b at 9 holds 30;"
            + "round r(note hour;go a;light;fill 5;go b;fill 99;light;fill 9;wait 90;)", 0, 9, 8);
        x.lightLamp(1);
        x.passQuarters(39);
        Check.same("lit ahead of dawn", x.litLamps(), 2);
        Check.same("the place ahead of dawn", x.placeOf(0), 9);
        Check.same("the can ahead of dawn", x.canOf(0) < 9, true);
        Check.same("busy ahead of dawn", x.busyOf(0) > 0, true);
        x.passQuarters(1);
        Check.same("no lamp is lit at dawn", x.litLamps(), 0);
        Check.same("at the post 0 at dawn", x.placeOf(0), 0);
        Check.same("a full can at dawn", x.canOf(0), 9);
        Check.same("not busy at dawn", x.busyOf(0), 0);
        Check.same("the round is kept at dawn", x.roundOf(0), 0);
        Check.same("it begins anew", x.isDone(0), false);
        Check.same("notes are kept at dawn", x.notesOf(0), 1);
        Check.same("nothing is noted ahead of work", x.passQuarters(1) + x.notesOf(0), 4);
        Check.same("on the way once more", x.busyOf(0), 1);
        Check.same("oil is kept at dawn", x.oilOf(0) < 30, true);
        Check.same("wicks are kept at dawn", x.wickOf(0) < 10, true);
        LampLighters y = Books.street("lamp a at 2 holds 30;", 5);
        y.passNights(1);
        Check.same("without a round", y.isDone(0), true);
    }

    private static void order() {
        // Lighters work by numbers, ahead of what is dark, and that ahead of burning.
        String book = "lamp a at 0 holds 9;round p(light;note lit;)round q(douse;note lit;)";
        LampLighters x = Books.street(book, 5, 5);
        x.assign(0, 1);
        x.assign(1, 0);
        Check.same("lit by the second one", x.passQuarters(1), 0);
        Check.same("isLit then", x.isLit(0), true);
        x.passQuarters(1);
        Check.same("the first one's note", x.noteOf(0, 0), 1);
        LampLighters y = Books.street(book, 5, 5);
        y.assign(0, 0);
        y.assign(1, 1);
        Check.same("doused by the second one", y.passQuarters(1), 1);
        Check.same("isLit then", y.isLit(0), false);
        LampLighters z = Books.street("lamp a at 0 holds 1;round r(fill 1;)", 5);
        z.lightLamp(0);
        z.passQuarters(1);
        z.assign(0, 0);
        z.passQuarters(1);
        Check.same("no room is there ahead of burning", z.canOf(0), 5);
        Check.same("and out it goes", z.isLit(0), false);
        Check.same("it wasn't dark in that quarter", z.darkOf(0), 0);
    }
}
