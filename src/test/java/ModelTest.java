import java.util.function.LongSupplier;

/** Long runs of calls, made by a counter of its own that is always the same, against the Model. */
public final class ModelTest {
    private static final int RUNS = 400;
    private static final int CALLS = 500;
    private static final String[] NAMES = {"a", "b", "pa", "pb", "pc", "x", "lampe", "eightlet", "z", "q", "r", "s",
        "t", "u", "v", "w"};
    private static final String[] MEASURES = {"oil", "wick", "lit", "can", "moon", "hour", "post"};
    private static final String[] PLAIN = {"light", "douse", "trim"};

    private static long seed = 20261119;

    private final LampLighters x = new LampLighters();
    private final Model m = new Model();
    private final int run;
    private String last = "";

    private ModelTest(int run) {
        this.run = run;
    }

    public static void main(String[] args) {
        for (int run = 0; run < RUNS; run++) {
            new ModelTest(run).go();
        }
        for (int i = 0; i < 30000; i++) {
            teachOnly(i);
        }
        Check.end();
    }

    private static int below(int bound) {
        seed = seed * 6364136223846793005L + 1442695040888963407L;
        return (int) ((seed >>> 33) % bound);
    }

    private static void teachOnly(int i) {
        LampLighters x = new LampLighters();
        Model m = new Model();
        String text = spoilt(i % 3 == 0 ? longBook() : book());
        Books.feed(x, text);
        m.tape.append(text);
        Check.same("teach of " + text, x.teach(), m.teach());
        Check.same("errorAt of " + text, x.errorAt(), m.errorAt);
        Check.same("digest of " + text, x.digest(), m.digest());
    }

    private void go() {
        int used = 0;
        while (used < CALLS - 80) {
            used += call(below(40));
            Check.same("run " + run + ": digest behind " + last, x.digest(), m.digest());
        }
    }

    private int call(int which) {
        switch (which) {
            case 0:
                return teach();
            case 1:
                hire();
                break;
            case 2: case 3: case 4: case 5:
                assign();
                break;
            case 6:
                boolean are = below(2) == 0;
                last = "setClouds " + are;
                Check.same(last, x.setClouds(are), m.cloudy);
                m.cloudy = are;
                break;
            case 7: case 8: case 9: case 10:
                byHand(which);
                break;
            case 11: case 12:
                int nights = below(7);
                last = "passNights " + nights;
                same(() -> x.passNights(nights), () -> nights < 1 || nights > 5 ? 1000001 : m.pass(nights * 40));
                break;
            case 13: case 14: case 15:
                untilLit();
                break;
            case 16: case 17: case 18:
                int ahead = below(83) - 1;
                last = "darkAfter " + ahead;
                same(() -> x.darkAfter(ahead), () -> ahead < 1 || ahead > 80 ? 1000001 : m.twin().pass(ahead));
                break;
            case 19: case 20: case 21:
                bestRound();
                break;
            default:
                int quarters = below(9) == 0 ? below(43) - 1 : 1 + below(4);
                last = "passQuarters " + quarters;
                same(() -> x.passQuarters(quarters), () -> quarters < 1 || quarters > 40 ? 1000001 : m.pass(quarters));
                break;
        }
        return 2;
    }

    private int teach() {
        String text = below(3) == 0 ? spoilt(book()) : book();
        last = "teach " + text;
        Books.feed(x, text);
        m.tape.append(text);
        Check.same(last, x.teach(), m.teach());
        Check.same("errorAt behind " + last, x.errorAt(), m.errorAt);
        return text.length() / 20 + 4;
    }

    private void hire() {
        int can = below(63);
        last = "hire " + can;
        same(() -> x.hire(can), () -> {
            if (can < 1 || can > 60) {
                return 1000001;
            }
            if (m.lighters.size() == 3) {
                return 1000002;
            }
            Model.Lighter lighter = new Model.Lighter();
            lighter.size = can;
            lighter.can = can;
            m.lighters.add(lighter);
            return m.lighters.size() - 1;
        });
    }

    private void assign() {
        int lighter = below(4) - (below(9) == 0 ? 1 : 0);
        int round = below(5) - (below(9) == 0 ? 1 : 0);
        last = "assign " + lighter + " " + round;
        same(() -> x.assign(lighter, round), () -> {
            if (lighter < 0 || lighter >= m.lighters.size() || round < 0 || round >= m.rounds.size()) {
                return 1000000;
            }
            int before = m.lighters.get(lighter).round;
            m.begin(lighter, round);
            return before;
        });
    }

    private void byHand(int which) {
        int number = below(6) - (below(9) == 0 ? 1 : 0);
        boolean there = number >= 0 && number < m.lamps.size();
        Model.Lamp lamp = there ? m.lamps.get(number) : new Model.Lamp();
        last = "by hand " + which + " " + number;
        if (which == 7) {
            same(() -> x.lightLamp(number) ? 1 : 0, () -> {
                lamp.lit = lamp.oil > 0 && lamp.wick > 0;
                return !there ? 1000000 : lamp.lit ? 1 : 0;
            });
        } else if (which == 8) {
            same(() -> x.douseLamp(number) ? 1 : 0, () -> {
                boolean before = lamp.lit;
                lamp.lit = false;
                return !there ? 1000000 : before ? 1 : 0;
            });
        } else if (which == 9) {
            int oil = below(33);
            same(() -> x.fillLamp(number, oil), () -> {
                if (!there || oil < 1 || oil > 30) {
                    return there ? 1000001 : 1000000;
                }
                lamp.oil = Math.min(lamp.room, lamp.oil + oil);
                return lamp.oil;
            });
        } else {
            same(() -> x.trimLamp(number), () -> {
                int before = lamp.wick;
                lamp.wick = 10;
                return there ? before : 1000000;
            });
        }
    }

    private void untilLit() {
        int lamp = below(5) - (below(9) == 0 ? 1 : 0);
        last = "quartersUntilLit " + lamp;
        same(() -> x.quartersUntilLit(lamp), () -> {
            if (lamp < 0 || lamp >= m.lamps.size()) {
                return 1000000;
            }
            Model t = m.twin();
            for (int n = 0; n <= 80; n++) {
                if (t.lamps.get(lamp).lit) {
                    return n;
                }
                t.pass(1);
            }
            return -1;
        });
    }

    private void bestRound() {
        int lighter = below(4) - (below(9) == 0 ? 1 : 0);
        int quarters = below(43) - 1;
        last = "bestRound " + lighter + " " + quarters;
        same(() -> x.bestRound(lighter, quarters), () -> {
            if (lighter < 0 || lighter >= m.lighters.size()) {
                return 1000000;
            }
            if (quarters < 1 || quarters > 40 || m.rounds.isEmpty()) {
                return quarters < 1 || quarters > 40 ? 1000001 : 1000002;
            }
            int best = -1;
            int fewest = Integer.MAX_VALUE;
            for (int round = m.rounds.size() - 1; round >= 0; round--) {
                Model t = m.twin();
                t.begin(lighter, round);
                int dark = t.pass(quarters);
                if (dark <= fewest) {
                    fewest = dark;
                    best = round;
                }
            }
            return best;
        });
    }

    /** Exceptions count 1000000 and more: index, argument, state. */
    private void same(LongSupplier got, LongSupplier due) {
        long answer;
        try {
            answer = got.getAsLong();
        } catch (IndexOutOfBoundsException e) {
            answer = 1000000;
        } catch (IllegalArgumentException e) {
            answer = 1000001;
        } catch (IllegalStateException e) {
            answer = 1000002;
        }
        Check.same("run " + run + ": " + last, answer, due.getAsLong());
    }

    // ---- books

    private static String book() {
        StringBuilder text = new StringBuilder();
        int lamps = below(6);
        int rounds = below(5);
        for (int i = 0; i < lamps; i++) {
            int post = below(2) == 0 ? below(4) : below(30);
            text.append("lamp ").append(NAMES[i]).append(" at ").append(post);
            text.append(" holds ").append(1 + below(below(2) == 0 ? 4 : 30)).append(";");
            text.append(below(4) == 0 ? "\n" : "");
        }
        for (int i = 0; i < rounds; i++) {
            text.append("round ").append(NAMES[lamps + i]);
            block(text, lamps, i, 1, 2 + below(5));
        }
        return text.length() > 1500 ? "round a()" : text.toString();
    }

    private static String longBook() {
        StringBuilder text = new StringBuilder();
        int lamps = 9 + below(3);
        for (int i = 0; i < lamps; i++) {
            text.append("lamp ").append(NAMES[i]).append(" at ").append(below(31)).append(" holds 9;");
        }
        int rounds = lamps < 11 && below(2) == 0 ? 5 + below(3) : 1;
        for (int i = 0; i < rounds && lamps + i < NAMES.length; i++) {
            text.append("round ").append(NAMES[lamps + i]).append("(");
            int acts = rounds == 1 ? 70 + below(20) : below(20);
            for (int n = 0; n < acts; n++) {
                text.append(below(3) == 0 ? "trim;" : below(2) == 0 ? "do can()" : "note 5;");
            }
            text.append(")");
        }
        return text.length() > 1500 ? "round a()" : text.toString();
    }

    private static void block(StringBuilder text, int lamps, int rounds, int depth, int most) {
        text.append("(");
        int acts = below(most + 1);
        for (int i = 0; i < acts; i++) {
            act(text, lamps, rounds, depth, most);
        }
        text.append(")");
    }

    private static void act(StringBuilder text, int lamps, int rounds, int depth, int most) {
        int which = below(14);
        if (which < 2) {
            text.append("light;");
        } else if (which < 4) {
            text.append(PLAIN[below(3)]).append(";");
        } else if (which < 6) {
            text.append(below(2) == 0 ? "fill " : "wait ").append(value()).append(";");
        } else if (which < 7) {
            text.append("note ").append(value()).append(";");
        } else if (which < 10 && lamps > 0) {
            text.append("go ").append(NAMES[below(lamps)]).append(";");
        } else if (which < 11 && rounds > 0) {
            text.append("walk ").append(NAMES[lamps + below(rounds)]).append(";");
        } else if (which < 12 && depth < 6) {
            text.append("do ").append(value());
            block(text, lamps, rounds, depth + 1, most - 1);
        } else if (depth < 6) {
            text.append("if ");
            do {
                text.append(value()).append(" < > = ".charAt(1 + 2 * below(3))).append(value()).append(" and ");
            } while (below(3) == 0);
            text.setLength(text.length() - 5);
            block(text, lamps, rounds, depth + 1, most - 1);
            if (below(2) == 0) {
                text.append("else");
                block(text, lamps, rounds, depth + 1, most - 1);
            }
        } else {
            text.append("note hour;");
        }
    }

    private static String value() {
        return below(2) == 0 ? MEASURES[below(7)] : "" + (below(3) == 0 ? below(100) : below(6));
    }

    /** A text with some bytes or words changed. */
    private static String spoilt(String text) {
        StringBuilder all = new StringBuilder(text);
        String[] parts = {"", "", " ", "\n", "A", "\u00e9", "(", ")", ";", "<", "100", "30", "0", "31", "1000", "lamp ",
            "round ", "else", " and ", "ninelette", " a ", " pa ", " if ", " go q;", "light;", "walk b;", "do 3(", "\t"};
        for (int n = below(4); n > 0 && all.length() > 0; n--) {
            int at = below(all.length());
            int end = Math.min(all.length(), at + below(4));
            all.replace(at, end, parts[below(parts.length)]);
        }
        if (all.length() > 1600) {
            all.setLength(1600);
        }
        return all.toString();
    }
}
