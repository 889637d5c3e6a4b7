/** Puts texts on the tape of a street. */
final class Books {
    private Books() {
    }

    /** Feeds a text, of which each character is a byte, and cuts off what fills up the last twenty. */
    static void feed(LampLighters x, String text) {
        for (int at = 0; at < text.length(); at += 20) {
            x.feed(number(text, at), number(text, at + 4), number(text, at + 8),
                number(text, at + 12), number(text, at + 16));
        }
        x.trim(text.length());
    }

    static int teach(LampLighters x, String text) {
        feed(x, text);
        return x.teach();
    }

    /** A street with a book that has no error, and with a lighter for each can. */
    static LampLighters street(String text, int... cans) {
        LampLighters x = new LampLighters();
        for (int can : cans) {
            x.hire(can);
        }
        Check.same("teach of " + text, teach(x, text), 0);
        return x;
    }

    /** A street as above on which the lighter 0 has begun the round. */
    static LampLighters begun(String text, int round, int... cans) {
        LampLighters x = street(text, cans);
        x.assign(0, round);
        return x;
    }

    private static int number(String text, int at) {
        int number = 0;
        for (int i = at; i < at + 4; i++) {
            number = number << 8 | (i < text.length() ? text.charAt(i) & 255 : ' ');
        }
        return number;
    }
}
