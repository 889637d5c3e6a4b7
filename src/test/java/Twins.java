/** Two streets made by the same calls, of which only one gets a call that must change nothing. */
final class Twins {
    /** Makes a street, the same one each time. */
    interface Maker {
        LampLighters make();
    }

    /** A call on a street. */
    interface Change {
        void on(LampLighters x);
    }

    private Twins() {
    }

    /** The call throws exactly this exception, and the street goes on as one that didn't get it. */
    static void refuses(String what, Class<? extends RuntimeException> due, Maker maker, Change call) {
        LampLighters x = maker.make();
        Check.refuses(what, x, due, () -> call.on(x));
        LampLighters twin = maker.make();
        Check.same("errorAt behind " + what, x.errorAt(), twin.errorAt());
        sameFromNowOn(what, x, twin);
    }

    /** The call answers, and the street goes on as one that didn't get it. */
    static void keeps(String what, Maker maker, Change call) {
        LampLighters x = maker.make();
        call.on(x);
        LampLighters twin = maker.make();
        Check.same("errorAt behind " + what, x.errorAt(), twin.errorAt());
        sameFromNowOn(what, x, twin);
    }

    /** All that a street holds comes out as time goes by: clocks, cans, rounds that are begun, clouds and the tape. */
    static void sameFromNowOn(String what, LampLighters x, LampLighters twin) {
        Check.same("digest behind " + what, x.digest(), twin.digest());
        Check.same("clouds behind " + what, x.setClouds(true), twin.setClouds(true));
        for (int n = 0; n < 100; n++) {
            if (n % 30 == 10) {
                lightAll(x);
                lightAll(twin);
            }
            Check.same("dark in quarter " + n + " behind " + what, x.passQuarters(1), twin.passQuarters(1));
            Check.same("digest of quarter " + n + " behind " + what, x.digest(), twin.digest());
        }
        Check.same("teach of the tape behind " + what, x.teach(), twin.teach());
        Check.same("errorAt of the tape behind " + what, x.errorAt(), twin.errorAt());
        Check.same("digest of the tape behind " + what, x.digest(), twin.digest());
    }

    private static void lightAll(LampLighters x) {
        for (int lamp = 0; lamp < x.lamps(); lamp++) {
            x.lightLamp(lamp);
        }
    }
}
