import java.util.ArrayDeque;
import java.util.ArrayList;
import java.util.Deque;
import java.util.HashMap;
import java.util.List;
import java.util.Map;
import java.util.regex.Matcher;
import java.util.regex.Pattern;

/**
 * The document said once more, in another way than the program does it: the book is a tree, a lighter has a row of
 * all acts and ends of blocks that are still ahead, and what would be is tried on a copy.
 */
final class Model {
    static final String RESERVED =
        " lamp at holds round light douse trim fill wait note go walk do if and else oil wick lit can moon hour post ";
    private static final String MEASURES = " oil wick lit can moon hour post ";
    private static final String ACTS = " light douse trim fill wait note go walk do if ";

    /** An error 1 at a position. */
    private static final class NoBook extends RuntimeException {
        private static final long serialVersionUID = 1L;
        final int position;

        NoBook(int position) {
            this.position = position;
        }
    }

    private static final class Token {
        String text = "";
        int position;
        boolean bad;
        boolean end;

        boolean isName() {
            return !bad && !end && text.matches("[a-z]+") && !RESERVED.contains(" " + text + " ");
        }

        boolean isNumber() {
            return !bad && !end && text.matches("[0-9]+");
        }

        boolean is(String wanted) {
            return !bad && !end && text.equals(wanted);
        }

        boolean isOneOf(String words) {
            return !bad && !end && words.contains(" " + text + " ");
        }
    }

    private static final class Act {
        String word;
        String value;
        int target;
        List<String[]> compares = new ArrayList<>();
        List<Act> body = new ArrayList<>();
        List<Act> other = new ArrayList<>();
    }

    static final class Lamp {
        int post;
        int room;
        int oil;
        int wick = 10;
        int clock;
        int dark;
        boolean lit;

        Lamp twin() {
            Lamp t = new Lamp();
            t.post = post;
            t.room = room;
            t.oil = oil;
            t.wick = wick;
            t.clock = clock;
            t.dark = dark;
            t.lit = lit;
            return t;
        }
    }

    static final class Lighter {
        int size;
        int can;
        int place;
        int round = -1;
        Act begun;
        int left;
        List<Integer> notes = new ArrayList<>();
        /** The acts that are ahead, and null for each end of a block. */
        List<Act> ahead = new ArrayList<>();

        Lighter twin() {
            Lighter t = new Lighter();
            t.size = size;
            t.can = can;
            t.place = place;
            t.round = round;
            t.begun = begun;
            t.left = left;
            t.notes.addAll(notes);
            t.ahead.addAll(ahead);
            return t;
        }

        void push(List<Act> block, int times) {
            if (block.isEmpty() || times < 1) {
                return;
            }
            List<Act> all = new ArrayList<>();
            for (int n = 0; n < times; n++) {
                all.addAll(block);
            }
            all.add(null);
            ahead.addAll(0, all);
        }

        boolean isDone() {
            return begun == null && ahead.isEmpty();
        }

        void drop() {
            begun = null;
            left = 0;
            ahead.clear();
        }
    }

    StringBuilder tape = new StringBuilder();
    int errorAt = -1;
    List<Lamp> lamps = new ArrayList<>();
    List<List<Act>> rounds = new ArrayList<>();
    int acts;
    List<Lighter> lighters = new ArrayList<>();
    int night;
    int quarter;
    int burnt;
    boolean cloudy;

    // what teach reads into
    private List<Token> tokens;
    private int at;
    private int[] mistake;
    private List<Lamp> newLamps;
    private List<List<Act>> newRounds;
    private int newActs;
    private Map<String, Integer> lampNames;
    private Map<String, Integer> roundNames;

    Model twin() {
        Model t = new Model();
        for (Lamp lamp : lamps) {
            t.lamps.add(lamp.twin());
        }
        for (Lighter lighter : lighters) {
            t.lighters.add(lighter.twin());
        }
        t.rounds = rounds;
        t.night = night;
        t.quarter = quarter;
        t.burnt = burnt;
        t.cloudy = cloudy;
        return t;
    }

    int teach() {
        String text = tape.toString();
        tape.setLength(0);
        tokens = tokensOf(text);
        at = 0;
        mistake = null;
        newLamps = new ArrayList<>();
        newRounds = new ArrayList<>();
        newActs = 0;
        lampNames = new HashMap<>();
        roundNames = new HashMap<>();
        try {
            readBook();
        } catch (NoBook e) {
            errorAt = e.position;
            return 1;
        }
        if (mistake != null) {
            errorAt = mistake[1];
            return mistake[0];
        }
        errorAt = -1;
        lamps = newLamps;
        rounds = newRounds;
        acts = newActs;
        night = 0;
        quarter = 0;
        burnt = 0;
        cloudy = false;
        for (int i = 0; i < lighters.size(); i++) {
            Lighter fresh = new Lighter();
            fresh.size = lighters.get(i).size;
            fresh.can = fresh.size;
            lighters.set(i, fresh);
        }
        return 0;
    }

    private static List<Token> tokensOf(String text) {
        List<Token> all = new ArrayList<>();
        Matcher matcher = Pattern.compile("[ \n]*([a-z]+|[0-9]+|[();<>=])").matcher(text);
        int position = 0;
        while (true) {
            Token token = new Token();
            matcher.region(position, text.length());
            int start = position;
            while (start < text.length() && (text.charAt(start) == ' ' || text.charAt(start) == '\n')) {
                start++;
            }
            token.position = start;
            all.add(token);
            if (start == text.length()) {
                token.end = true;
                return all;
            }
            if (!matcher.lookingAt()) {
                token.bad = true;
                return all;
            }
            token.text = matcher.group(1);
            int most = Character.isDigit(token.text.charAt(0)) ? 3 : 8;
            token.bad = token.text.length() > most || all.size() > 400;
            position = matcher.end();
        }
    }

    private Token now() {
        return tokens.get(at);
    }

    private Token expect(boolean isSo) {
        if (!isSo) {
            throw new NoBook(now().position);
        }
        return tokens.get(at++);
    }

    private void mistake(int error, Token token) {
        if (mistake == null || token.position < mistake[1]
                || token.position == mistake[1] && error < mistake[0]) {
            mistake = new int[] {error, token.position};
        }
    }

    private void readBook() {
        while (now().is("lamp")) {
            at++;
            Token name = expect(now().isName());
            Lamp lamp = new Lamp();
            expect(now().is("at"));
            Token post = expect(now().isNumber());
            expect(now().is("holds"));
            Token room = expect(now().isNumber());
            expect(now().is(";"));
            lamp.post = Integer.parseInt(post.text);
            lamp.room = Integer.parseInt(room.text);
            lamp.oil = lamp.room;
            checkName(name);
            if (newLamps.size() == 10) {
                mistake(4, name);
            }
            if (lamp.post > 29) {
                mistake(5, post);
            }
            if (lamp.room < 1 || lamp.room > 30) {
                mistake(5, room);
            }
            lampNames.putIfAbsent(name.text, newLamps.size());
            newLamps.add(lamp);
        }
        while (now().is("round")) {
            at++;
            Token name = expect(now().isName());
            checkName(name);
            if (newRounds.size() == 6) {
                mistake(4, name);
            }
            List<Act> block = readBlock(0);
            roundNames.putIfAbsent(name.text, newRounds.size());
            newRounds.add(block);
        }
        if (!now().end) {
            throw new NoBook(now().position);
        }
    }

    private void checkName(Token name) {
        if (lampNames.containsKey(name.text) || roundNames.containsKey(name.text)) {
            mistake(2, name);
        }
    }

    private List<Act> readBlock(int around) {
        List<Act> block = new ArrayList<>();
        expect(now().is("(") && around < 6);
        while (!now().is(")")) {
            block.add(readAct(around));
        }
        at++;
        return block;
    }

    private Act readAct(int around) {
        Token word = expect(now().isOneOf(ACTS));
        newActs++;
        if (newActs > 80) {
            mistake(4, word);
        }
        Act act = new Act();
        act.word = word.text;
        if (word.is("if")) {
            do {
                String left = readValue();
                String sign = expect(now().isOneOf(" < > = ")).text;
                act.compares.add(new String[] {left, sign, readValue()});
            } while (now().is("and") && at++ >= 0);
            act.body = readBlock(around + 1);
            if (now().is("else")) {
                at++;
                act.other = readBlock(around + 1);
            }
            return act;
        }
        if (word.isOneOf(" go walk ")) {
            Map<String, Integer> names = word.is("go") ? lampNames : roundNames;
            Token name = expect(now().isName());
            if (!names.containsKey(name.text)) {
                mistake(3, name);
            }
            act.target = names.getOrDefault(name.text, -1);
        } else if (word.isOneOf(" fill wait note do ")) {
            act.value = readValue();
        }
        if (word.is("do")) {
            act.body = readBlock(around + 1);
        } else {
            expect(now().is(";"));
        }
        return act;
    }

    private String readValue() {
        Token value = expect(now().isNumber() || now().isOneOf(MEASURES));
        if (value.isNumber() && Integer.parseInt(value.text) > 99) {
            mistake(5, value);
        }
        return value.text;
    }

    int moonlight() {
        return moonOf(night);
    }

    static int moonOf(int night) {
        return Math.min(night % 30, 29 - night % 30);
    }

    boolean isOff() {
        return moonlight() >= 11 && !cloudy;
    }

    void begin(int lighter, int round) {
        Lighter l = lighters.get(lighter);
        l.round = round;
        l.drop();
        l.push(rounds.get(round), 1);
    }

    int pass(int quarters) {
        int dark = 0;
        for (int n = 0; n < quarters; n++) {
            dark += passOne();
        }
        return dark;
    }

    private int passOne() {
        int dark = 0;
        boolean off = isOff();
        for (Lighter lighter : lighters) {
            if (!off) {
                work(lighter);
            }
        }
        for (Lamp lamp : lamps) {
            if (!lamp.lit && !off) {
                lamp.dark++;
                dark++;
            } else if (lamp.lit) {
                lamp.clock++;
                int oil = lamp.oil;
                lamp.oil -= lamp.clock % 2 == 0 ? 1 : 0;
                lamp.wick -= lamp.clock % 4 == 0 ? 1 : 0;
                burnt += oil - lamp.oil;
                lamp.lit = lamp.oil != 0 && lamp.wick != 0;
            }
        }
        quarter = (quarter + 1) % 40;
        if (quarter == 0) {
            night++;
            for (Lamp lamp : lamps) {
                lamp.lit = false;
            }
            for (int i = 0; i < lighters.size(); i++) {
                Lighter lighter = lighters.get(i);
                lighter.place = 0;
                lighter.can = lighter.size;
                lighter.drop();
                if (lighter.round >= 0) {
                    begin(i, lighter.round);
                }
            }
        }
        return dark;
    }

    private Lamp lampAt(Lighter lighter) {
        for (Lamp lamp : lamps) {
            if (lamp.post == lighter.place) {
                return lamp;
            }
        }
        return null;
    }

    private int valueOf(String value, Lighter lighter) {
        Lamp lamp = lampAt(lighter);
        switch (value) {
            case "oil":
                return lamp == null ? -1 : lamp.oil;
            case "wick":
                return lamp == null ? -1 : lamp.wick;
            case "lit":
                return lamp == null ? -1 : lamp.lit ? 1 : 0;
            case "can":
                return lighter.can;
            case "moon":
                return moonlight();
            case "hour":
                return quarter;
            case "post":
                return lighter.place;
            default:
                return Integer.parseInt(value);
        }
    }

    private void work(Lighter lighter) {
        int atOnce = 0;
        while (lighter.begun == null) {
            if (lighter.ahead.isEmpty()) {
                return;
            }
            Act act = lighter.ahead.remove(0);
            if (act == null) {
                continue;
            }
            int takes = takes(lighter, act);
            if (takes > 0) {
                lighter.begun = act;
                lighter.left = takes;
                break;
            }
            doAtOnce(lighter, act);
            atOnce++;
            if (atOnce == 30) {
                lighter.drop();
                return;
            }
        }
        lighter.left--;
        if (lighter.left == 0) {
            Act act = lighter.begun;
            lighter.begun = null;
            finish(lighter, act);
        }
    }

    private int takes(Lighter lighter, Act act) {
        switch (act.word) {
            case "light":
            case "douse":
            case "fill":
                return 1;
            case "trim":
                return 2;
            case "wait":
                return valueOf(act.value, lighter);
            case "go":
                return Math.abs(lamps.get(act.target).post - lighter.place);
            default:
                return 0;
        }
    }

    private void doAtOnce(Lighter lighter, Act act) {
        if (act.word.equals("note")) {
            lighter.notes.add(valueOf(act.value, lighter));
        } else if (act.word.equals("walk")) {
            lighter.push(rounds.get(act.target), 1);
        } else if (act.word.equals("do")) {
            lighter.push(act.body, valueOf(act.value, lighter));
        } else if (act.word.equals("if")) {
            boolean all = true;
            for (String[] compare : act.compares) {
                int sign = Integer.compare(valueOf(compare[0], lighter), valueOf(compare[2], lighter));
                all &= sign == "<=>".indexOf(compare[1]) - 1;
            }
            lighter.push(all ? act.body : act.other, 1);
        }
    }

    private void finish(Lighter lighter, Act act) {
        if (act.word.equals("go")) {
            lighter.place = lamps.get(act.target).post;
        }
        Lamp lamp = lampAt(lighter);
        if (lamp == null) {
            return;
        }
        if (act.word.equals("light")) {
            lamp.lit = lamp.oil > 0 && lamp.wick > 0;
        } else if (act.word.equals("douse")) {
            lamp.lit = false;
        } else if (act.word.equals("trim")) {
            lamp.wick = 10;
        } else if (act.word.equals("fill")) {
            int oil = valueOf(act.value, lighter);
            oil = Math.min(oil, lighter.can);
            oil = Math.min(oil, lamp.room - lamp.oil);
            oil = Math.max(oil, 0);
            lighter.can -= oil;
            lamp.oil += oil;
        }
    }

    long digest() {
        Deque<Integer> all = new ArrayDeque<>();
        int lit = 0;
        for (Lamp lamp : lamps) {
            lit += lamp.lit ? 1 : 0;
        }
        for (int x : new int[] {lamps.size(), rounds.size(), acts, lit, burnt, night, quarter, moonlight(),
            isOff() ? 1 : 0, lighters.size()}) {
            all.add(x);
        }
        for (Lamp lamp : lamps) {
            for (int x : new int[] {lamp.post, lamp.room, lamp.oil, lamp.wick, lamp.lit ? 1 : 0, lamp.dark}) {
                all.add(x);
            }
        }
        for (Lighter l : lighters) {
            int busy = l.begun == null ? 0 : l.left;
            for (int x : new int[] {l.place, l.can, l.round, l.isDone() ? 1 : 0, busy, l.notes.size()}) {
                all.add(x);
            }
            for (int back = 0; back < 20 && back < l.notes.size(); back++) {
                all.add(l.notes.get(l.notes.size() - 1 - back));
            }
        }
        long d = 1901;
        for (int x : all) {
            d = d * 31 + x;
        }
        return d;
    }
}
