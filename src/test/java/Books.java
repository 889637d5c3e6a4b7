/** Puts texts on the tape of a street, and looks at how they are read. */
final class Books {
    private Books() {
    }

    /** Feeds a text, of which each character is a byte, and cuts off what fills up the last twenty. */
    static void feed(LampLighters x, String text) {
        for (int at = 0; at < text.length(); at += 20) {
            x.feed(number(text, at), number(text, at + 4), number(text, at + 8),
                number(text, at + 12), number(text, at + 16));
        }
        x.trim(text.length());
    }

    static int teach(LampLighters x, String text) {
        feed(x, text);
        return x.teach();
    }

    /** A street with a book that has no error, and with a lighter for each can. */
    static LampLighters street(String text, int... cans) {
        LampLighters x = new LampLighters();
        for (int can : cans) {
            x.hire(can);
        }
        Check.same("teach of " + text, teach(x, text), 0);
        return x;
    }

    /** A street as above on which the lighter 0 has begun the round. */
    static LampLighters begun(String text, int round, int... cans) {
        LampLighters x = street(text, cans);
        x.assign(0, round);
        return x;
    }

    /** Lets time go by till the first quarter of a night. */
    static void passTo(LampLighters x, int night) {
        while (x.night() < night) {
            x.passQuarters(40 - x.quarter());
        }
    }

    /** The text has this error at this position. */
    static void error(String text, int error, int position) {
        LampLighters x = new LampLighters();
        Check.same("teach of " + shown(text), teach(x, text), error);
        Check.same("errorAt of " + shown(text), x.errorAt(), position);
    }

    /** The text is a book with so many lamps, rounds and acts. */
    static void right(String text, int lamps, int rounds, int acts) {
        LampLighters x = new LampLighters();
        String shown = shown(text);
        Check.same("teach of " + shown, teach(x, text), 0);
        Check.same("errorAt of " + shown, x.errorAt(), -1);
        Check.same("lamps of " + shown, x.lamps(), lamps);
        Check.same("rounds of " + shown, x.rounds(), rounds);
        Check.same("acts of " + shown, x.acts(), acts);
    }

    /** So many lamps, named a, b and so on, at the posts 0, 1 and so on; each holds its post more than 1. */
    static String lamps(int count) {
        StringBuilder text = new StringBuilder();
        for (int i = 0; i < count; i++) {
            text.append("lamp ").append((char) ('a' + i)).append(" at ").append(i);
            text.append(" holds ").append(i + 1).append(";");
        }
        return text.toString();
    }

    private static String shown(String text) {
        return text.length() > 90 ? text.substring(0, 40) + " .. " + text.substring(text.length() - 40) : text;
    }

    private static int number(String text, int at) {
        int number = 0;
        for (int i = at; i < at + 4; i++) {
            number = number << 8 | (i < text.length() ? text.charAt(i) & 255 : ' ');
        }
        return number;
    }
}
