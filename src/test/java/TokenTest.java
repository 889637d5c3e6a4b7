/** Of "Terms", the book: its tokens, its grammar, and error 1 (as teach and errorAt, promises 4 and 5, tell it). */
public final class TokenTest {
    private static final String LAMPS = "lamp a at 1 holds 2;lamp b at 3 holds 4;";
    private static final String WORDS = "lamp at holds round light douse trim fill wait note go walk do if and else oil "
        + "wick lit can moon hour post";

    private TokenTest() {
    }

    public static void main(String[] args) {
        positions();
        blanksAnywhere();
        noBlanks();
        blanksNeeded();
        otherBytesAreNoBlanks();
        letters();
        digits();
        signs();
        shortWords();
        longWords();
        shortNumbers();
        longNumbers();
        longestToken();
        none();
        anyNumber();
        onceOrNot();
        reservedNames();
        namesLikeReserved();
        noTokenBegins();
        wrongTokens();
        wrongFirstTokens();
        endOfTape();
        endOfFullTape();
        depth();
        depthOfElse();
        tokenCount();
        tokenCountEnd();
        errorOneBeforeAll();
        Check.end();
    }

    private static void positions() {
        Check.about("Terms, the book: positions are counted from 0, in bytes");
        Books.error("x", 1, 0);
        Books.error(" x", 1, 1);
        Books.error("\n x", 1, 2);
        Books.error(LAMPS + "x", 1, 40);
    }

    private static void blanksAnywhere() {
        Check.about("Terms, the book: blanks and line ends can stand anywhere between tokens");
        Books.right(" ", 0, 0, 0);
        Books.right("\n", 0, 0, 0);
        Books.right(" \n \n\n  ", 0, 0, 0);
        Books.right(" ".repeat(1600), 0, 0, 0);
        Books.right("\n".repeat(1600), 0, 0, 0);
        Books.right(" lamp\na\nat\n029\nholds\n030\n;\nround b (\n)\n", 1, 1, 0);
        Books.right("\n round \n r \n ( \n do \n 1 \n ( \n if \n 1 \n < \n 2 \n ( \n ) \n ) \n ) \n ", 0, 1, 2);
    }

    private static void noBlanks() {
        Check.about("Terms, the book: no blanks have to stand where tokens aren't read as one");
        Books.right("lamp a at0holds1;lamp b at 029holds 030;", 2, 0, 0);
        Books.right("round r(if 1<2and 2>1and oil=oil()else(do 3(fill 4;note 5;)))", 0, 1, 4);
    }

    private static void blanksNeeded() {
        Check.about("Terms, the book: blanks have to stand between two tokens that would be read as one");
        Books.error("lampa at 0 holds 1;", 1, 0);
        Books.error("lamp aat 0 holds 1;", 1, 9);
        Books.error(LAMPS + "roundr()", 1, 40);
        Books.error("round r(notepost;)", 1, 8);
        Books.right("lamp a at 1 holds 2;", 1, 0, 0);
        Books.error("lamp a at 1 0 holds 2;", 1, 12);
        Books.right("lamp a at 10 holds 2;", 1, 0, 0);
    }

    private static void otherBytesAreNoBlanks() {
        Check.about("Terms, the book: blanks are 32 and 10, no other byte");
        for (int b = 0; b < 256; b++) {
            String text = "lamp" + (char) b + "a at 1 holds 2;";
            if (b == 32 || b == 10) {
                Books.right(text, 1, 0, 0);
            } else {
                Books.error(text, 1, b >= 'a' && b <= 'z' ? 0 : 4);
            }
        }
    }

    private static void letters() {
        Check.about("Terms, the book: letters are a to z, no other byte");
        for (int b = 0; b < 256; b++) {
            String text = "lamp " + (char) b + " at 1 holds 2;";
            if (b >= 'a' && b <= 'z') {
                Books.right(text, 1, 0, 0);
            } else {
                Books.error(text, 1, b == 32 || b == 10 ? 7 : 5);
            }
        }
    }

    private static void digits() {
        Check.about("Terms, the book: digits are 0 to 9, no other byte");
        for (int b = 0; b < 256; b++) {
            String text = "lamp a at " + (char) b + " holds 2;";
            if (b >= '0' && b <= '9') {
                Books.right(text, 1, 0, 0);
                Check.same("post of " + text, Books.street(text).postOf(0), b - '0');
            } else {
                Books.error(text, 1, b == 32 || b == 10 ? 12 : 10);
            }
        }
    }

    private static void signs() {
        Check.about("Terms, the book: the signs are tokens by themselves");
        Books.right("round r(if 1<2()if 1>2()if 1=2())", 0, 1, 3);
        Books.error("round r(if 1<=2())", 1, 13);
        Books.error("round r(if 1<<2())", 1, 13);
        Books.error("round r(if 1==2())", 1, 13);
        Books.error("round r(if 1<>2())", 1, 13);
        Books.error("round r((", 1, 8);
        Books.error("round r())", 1, 9);
        Books.error("round r(light;;)", 1, 14);
        for (int b = 0; b < 256; b++) {
            if (b < 'a' || b > 'z') {
                String text = "round r" + (char) b + ")";
                if (b == '(') {
                    Books.right(text, 0, 1, 0);
                } else {
                    Books.error(text, 1, b == 32 || b == 10 ? 8 : 7);
                }
            }
        }
    }

    private static void shortWords() {
        Check.about("Terms, the book: a word of 1 to 8 letters");
        for (int letters = 1; letters <= 8; letters++) {
            String name = "q".repeat(letters);
            Books.right("lamp " + name + " at 0 holds 1;round r(go " + name + ";)", 1, 1, 1);
            Books.right("round " + name + "()", 0, 1, 0);
        }
    }

    private static void longWords() {
        Check.about("Terms, the book, error 1: a word of more than 8 letters, at its first byte");
        Books.error("lamp abcdefghi at 0 holds 1;", 1, 5);
        Books.error("round abcdefghi()", 1, 6);
        Books.error("abcdefghi", 1, 0);
        Books.error("lamp a at 0 holds 1;roundlamp", 1, 20);
        Books.error("lamp " + "a".repeat(1590), 1, 5);
        // the first eight letters would be right, and so would the others
        Books.error("lamp a at 0 holds 1;round r(go a;)round aaaaaaaar()", 1, 40);
    }

    private static void shortNumbers() {
        Check.about("Terms, the book: a number of 1 to 3 digits");
        Books.right("lamp a at 7 holds 8;lamp b at 07 holds 08;lamp c at 007 holds 008;", 3, 0, 0);
        Books.right("lamp a at 0 holds 1;lamp b at 00 holds 01;lamp c at 000 holds 001;", 3, 0, 0);
        LampLighters x = Books.street("lamp a at 009 holds 010;");
        Check.same("post 009", x.postOf(0), 9);
        Check.same("room 010", x.roomOf(0), 10);
        // three digits are no error 1, whatever the number is
        Books.error("lamp a at 999 holds 1;", 5, 10);
    }

    private static void longNumbers() {
        Check.about("Terms, the book, error 1: a number of more than 3 digits, at its first byte");
        Books.error("lamp a at 0000 holds 1;", 1, 10);
        Books.error("lamp a at 0 holds 0001;", 1, 18);
        Books.error("round r(wait 0005;)", 1, 13);
        Books.error("round r(wait 1000;)", 1, 13);
        Books.error("round r(wait " + "0".repeat(1580), 1, 13);
        Books.error("round r(wait 4294967296;)", 1, 13);
    }

    private static void longestToken() {
        Check.about("Terms, the book: the longest possible token is always read");
        Books.right("lamp lampe at 0 holds 1;lamp o at 0 holds 1;lamp doo at 0 holds 1;", 3, 0, 0);
        Books.right("round lights()round ifs()round oils()", 0, 3, 0);
        Books.error("round r(lights;)", 1, 8);
        Books.right("round r(do1()do12())", 0, 1, 2);
        Books.error("round r(do1light())", 1, 11);
    }

    private static void none() {
        Check.about("Terms, the book: what stands in { } can stand there not at all");
        Books.right("", 0, 0, 0);
        Books.right(LAMPS, 2, 0, 0);
        Books.right("round r()", 0, 1, 0);
        Books.right("round r(do 1()if 1=1()if 1=1()else())", 0, 1, 3);
    }

    private static void anyNumber() {
        Check.about("Terms, the book: what stands in { } can stand there any number of times");
        Books.right(LAMPS + "round r(light;douse;trim;fill 1;wait oil;note 99;go b;do 0(do 1()))round s(walk r;)", 2, 2, 10);
        Books.right("round r(if lit>can and moon=hour and post<000(trim;trim;))", 0, 1, 3);
        Books.right("round r(if 1=1" + " and 1=1".repeat(97) + "())", 0, 1, 1);
        Books.right("round r(" + "if 0=0()".repeat(40) + ")", 0, 1, 40);
    }

    private static void onceOrNot() {
        Check.about("Terms, the book: what stands in [ ] can stand there once or not at all");
        Books.right("round r(if 0=0()if 0=0()else()light;)", 0, 1, 3);
        Books.right("round r(if oil<wick(light;)else(douse;if 1=1()))", 0, 1, 4);
        Books.error("round r(if 1<2()else()else())", 1, 22);
        Books.error("round r(else())", 1, 8);
        Books.error("round r(light;else())", 1, 14);
        Books.error("round r(do 1()else())", 1, 14);
    }

    private static void reservedNames() {
        Check.about("Terms, the book: a name is none of the words of the book");
        for (String word : WORDS.split(" ")) {
            Books.error("lamp " + word + " at 0 holds 1;", 1, 5);
            Books.error("round " + word + "()", 1, 6);
            Books.error("round r(go " + word + ";)", 1, 11);
            Books.error("round r(walk " + word + ";)", 1, 13);
        }
    }

    private static void namesLikeReserved() {
        Check.about("Terms, the book: a name is any other word");
        for (String word : WORDS.split(" ")) {
            Books.right("lamp " + word + "s at 0 holds 1;round r(go " + word + "s;)", 1, 1, 1);
            Books.right("round x" + word + "()round r(walk x" + word + ";)", 0, 2, 1);
            if (word.length() > 2) {
                Books.right("round " + word.substring(1) + "()", 0, 1, 0);
            }
        }
    }

    private static void noTokenBegins() {
        Check.about("Terms, the book, error 1: a byte with which no token begins");
        for (int b = 0; b < 256; b++) {
            String text = LAMPS + (char) b;
            if (b == 32 || b == 10) {
                Books.right(text, 2, 0, 0);
            } else {
                Books.error(text, 1, 40);
            }
        }
        Books.error("lamp a at 0 holds -1;", 1, 18);
        Books.error("lamp a at 0 holds 1,", 1, 19);
        Books.error("Lamp a at 0 holds 1;", 1, 0);
    }

    private static void wrongTokens() {
        Check.about("Terms, the book, error 1: the first token with which it isn't the beginning of a book");
        String[] ends = {"lamp |1", "lamp a |1", "lamp a at |b", "lamp a at |oil", "lamp a at 1 |2", "lamp a at 1 holds |x",
            "lamp a at 1 holds 2 |lamp", LAMPS + "round r()|lamp c at 1 holds 1;", LAMPS + "|;", "round r|;", "round |(",
            "round r(|a", "round r(|5", "round r(light|)", "round r(douse |1;)", "round r(fill|;)", "round r(fill |a;)",
            "round r(fill |and;)", "round r(fill 1|)", "round r(wait|;)", "round r(wait 1 |1;)", "round r(note |(",
            "round r(go |1;)", "round r(go |light;)", "round r(go a|)", "round r(walk|;)", "round r(walk r|(",
            "round r(do|()", "round r(do 1|;)", "round r(do 1 |light;)", "round r(if |(", "round r(if 1|(",
            "round r(if 1<|(", "round r(if 1<2|;", "round r(if 1<2 and |()", "round r(if 1<2 |1<2()",
            "round r(if 1<2()else|;)", "round r(|and", "round r(|oil;)", "round r()|)", "round r()|()"};
        for (String end : ends) {
            Books.error(end.replace("|", ""), 1, end.indexOf('|'));
        }
    }

    private static void wrongFirstTokens() {
        Check.about("Terms, the book, error 1: words that begin no act, or no book");
        String acts = " light douse trim fill wait note go walk do if ";
        for (String word : WORDS.split(" ")) {
            if (!acts.contains(" " + word + " ")) {
                Books.error("round r(" + word + " ", 1, 8);
            }
            if (!word.equals("lamp") && !word.equals("round")) {
                Books.error(word, 1, 0);
            }
        }
    }

    private static void endOfTape() {
        Check.about("Terms, the book, error 1: the end of the tape, at its length");
        String book = "lamp a at 1 holds 2;round r(light;fill 1;go a;do 1(if 1<2 and 3=3(trim;)else(note oil;)))";
        for (int length = 0; length < book.length(); length++) {
            String text = book.substring(0, length);
            // where the tape is cut within a word, it may end with another token than the book has there
            boolean isCut = length > 0 && Character.isLetter(book.charAt(length))
                && Character.isLetter(book.charAt(length - 1));
            if (length == 0 || length == 20) {
                Books.right(text, length / 20, 0, 0);
            } else if (!isCut) {
                Books.error(text, 1, length);
                Books.error(text + " \n ", 1, length + 3);
            }
        }
        Books.right(book, 1, 1, 7);
    }

    private static void endOfFullTape() {
        Check.about("Terms, the book, error 1: the end of a full tape, at 1600");
        Books.error("lamp" + " ".repeat(1596), 1, 1600);
        Books.error(" ".repeat(1596) + "lamp", 1, 1600);
        Books.error(" ".repeat(1599) + "x", 1, 1599);
        Books.right(" ".repeat(1600 - LAMPS.length()) + LAMPS, 2, 0, 0);
    }

    private static void depth() {
        Check.about("Terms, the book, error 1: the sign ( of a block that would lie in six others");
        Books.right("round r(do 1(do 1(do 1(do 1(do 1())))))", 0, 1, 5);
        Books.error("round r(do 1(do 1(do 1(do 1(do 1(do 1())))))", 1, 37);
        Books.right("round r(do 1(do 1(do 1(do 1(do 1(light;)do 2()))))do 1(do 1(do 1(do 1(do 1())))))", 0, 1, 12);
        Books.right("round r(do 1(do 1(do 1(do 1(do 1())))))round s(do 1(do 1(do 1(do 1(do 1(walk r;))))))", 0, 2, 11);
        Books.error("round r()round s(do 1(do 1(do 1(do 1(do 1(do 1(", 1, 46);
    }

    private static void depthOfElse() {
        Check.about("Terms, the book, error 1: the block behind else lies in as many others as the first one");
        Books.right("round r(if 1=1(do 1(if 1=1()else(do 1(do 1())))))", 0, 1, 5);
        Books.error("round r(do 1(do 1(do 1(do 1(if 1=1()else(if 1=1(", 1, 47);
        Books.right("round r(do 1(do 1(do 1(do 1(if 1=1(light;)else(douse;))))))", 0, 1, 7);
        Books.error("round r(do 1(do 1(do 1(do 1(do 1(if 1=1()else(", 1, 39);
        String elses = "if 1=1()else(".repeat(5);
        Books.right("round r(" + elses + "))))))", 0, 1, 5);
        Books.error("round r(" + elses + "if 1=1(", 1, 8 + elses.length() + 6);
    }

    /** A round that begins with an if, of ten tokens and four for each and, up to the sign ) of its block. */
    private static String ifs(int ands) {
        return "round r(if 1=1" + " and 1=1".repeat(ands) + "()";
    }

    private static void tokenCount() {
        Check.about("Terms, the book, error 1: the token that would be the 401st");
        String full = ifs(97) + "trim;)";
        Books.right(full, 0, 1, 2);
        Books.error(full + " round", 1, full.length() + 1);
        Books.error(full + "round s()", 1, full.length());
        Books.error(full + " \n(", 1, full.length() + 2);
        Books.error(full + " \n!", 1, full.length() + 2);
        String over = ifs(97) + "note 1;)";
        Books.error(over, 1, over.length() - 1);
        Books.error(over + " ", 1, over.length() - 1);
        Books.error(ifs(97) + "fill 100;)", 1, ifs(97).length() + 9);
        Books.right(ifs(96) + "trim;do 1())", 0, 1, 3);
    }

    private static void tokenCountEnd() {
        Check.about("Terms, the book, error 1: the end of the tape isn't counted as a token");
        String full = ifs(97) + "trim;)";
        Books.right(full + " \n", 0, 1, 2);
        String cut = ifs(97) + "note 1;";
        Books.error(cut, 1, cut.length());
        Books.error(cut + "\n", 1, cut.length() + 1);
        String less = ifs(96) + "trim;note 1;)";
        Books.right(less + "\n", 0, 1, 3);
        Books.error(less + "round", 1, less.length() + 5);
        Books.error(less + "round s", 1, less.length() + 6);
    }

    private static void errorOneBeforeAll() {
        Check.about("Terms, the book: only if there is no error 1, others are told");
        Books.error("lamp a at 30 holds 0;lamp a at 1 holds 1;round r(go x;", 1, 54);
        Books.error("lamp a at 1 holds 1;lamp a at 1 holds 1;x", 1, 40);
        Books.error("round r(go x;)!", 1, 14);
        Books.error(Books.lamps(11) + "lamp", 1, Books.lamps(11).length() + 4);
        Books.error("round r(wait 100;wait 1000;)", 1, 22);
    }
}
