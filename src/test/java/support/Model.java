import java.util.ArrayList;
import java.util.HashMap;
import java.util.List;
import java.util.Map;

/** The document once more, as plainly as it can be told: lists, inheritance, every choice tried out. */
final class Model {
    static final int LOW = -1000000;
    static final int[][] WAYS = {{1, 0}, {1, 1}, {0, 1}, {-1, 1}, {-1, 0}, {-1, -1}, {0, -1}, {1, -1}};
    static final String[] NAMES = {"fmwt", "shan", "du"};

    private State s = new State();
    private State image = null;
    private int images = 0;
    private final int[] findings = new int[6];
    private final Sheet[] sheets = new Sheet[4];
    private List<Integer> trace = new ArrayList<>();

    // ---- what stands

    static final class Mast { int cell; int reach; boolean jammed; }
    static final class Post { int cell; int ear; }
    static final class Plot { int cell; int many; int minute; }
    static final class Town { int cell; boolean siren; int lost; int hits; }
    static final class Rule { int use; int from; String text; }
    static final class Sheet { int bits; int[] at; }

    static class Flyer {
        int kind, cell, height, pace, way, many, up, fuel = -1, rounds = -1, after = -1, field = -1, number;
        boolean answered;
        List<Integer> bodies = new ArrayList<>();

        int go(int x) { bodies.add(10); return x + number; }
        int join(int x) { bodies.add(11); return go(x) * 2; }
        int burn(int x) { bodies.add(12); return join(x) - many; }
        int tell(int x) { bodies.add(13); return burn(x) + go(1); }
        boolean isFlight() { return kind >= 4; }
        boolean isRaid() { return kind == 1 || kind == 2; }
    }
    static class Raid extends Flyer {
        int join(int x) { bodies.add(20); return super.join(x) + many; }
        int tell(int x) { bodies.add(21); return 0 - super.tell(x); }
    }
    static class Spoof extends Raid {
        int go(int x) { bodies.add(30); return super.go(x) * many; }
        int burn(int x) { bodies.add(31); return super.burn(x + 1); }
    }
    static class Friend extends Flyer {
        int burn(int x) { bodies.add(40); return go(x) ^ super.burn(x); }
    }
    static class Flight extends Friend {
        int go(int x) { bodies.add(50); return super.go(x - 1); }
        int tell(int x) { bodies.add(51); return super.tell(x) + burn(number); }
    }
    static class Patrol extends Flight {
        int join(int x) { bodies.add(60); return super.join(x) - super.go(x); }
        int burn(int x) { bodies.add(61); return super.burn(x) * 3; }
    }

    static Flyer ofKind(int kind) {
        Flyer f = switch (kind) {
            case 0 -> new Flyer();
            case 1 -> new Raid();
            case 2 -> new Spoof();
            case 3 -> new Friend();
            case 4 -> new Flight();
            default -> new Patrol();
        };
        f.kind = kind;
        return f;
    }

    static boolean under(int kind, int of) {
        return switch (of) {
            case 0 -> true;
            case 1 -> kind == 1 || kind == 2;
            case 2 -> kind == 2;
            case 3 -> kind >= 3;
            case 4 -> kind >= 4;
            default -> kind == 5;
        };
    }

    static final class State {
        List<Mast> masts = new ArrayList<>();
        List<Post> posts = new ArrayList<>();
        List<Plot> plots = new ArrayList<>();
        List<Integer> fields = new ArrayList<>();
        List<Town> towns = new ArrayList<>();
        List<Flyer> flyers = new ArrayList<>();
        List<Rule> rules = new ArrayList<>();
        String tape = "";
        List<Integer> waits = new ArrayList<>();
        int minute = 0, weather = 0, speed = 2;

        State copy() {
            State c = new State();
            for (Mast m : masts) { Mast k = new Mast(); k.cell = m.cell; k.reach = m.reach; k.jammed = m.jammed; c.masts.add(k); }
            c.posts.addAll(posts);
            c.plots.addAll(plots);
            c.fields.addAll(fields);
            for (Town t : towns) { Town k = new Town(); k.cell = t.cell; k.siren = t.siren; k.lost = t.lost; k.hits = t.hits; c.towns.add(k); }
            for (Flyer f : flyers) {
                Flyer k = ofKind(f.kind);
                k.cell = f.cell; k.height = f.height; k.pace = f.pace; k.way = f.way; k.many = f.many; k.up = f.up;
                k.fuel = f.fuel; k.rounds = f.rounds; k.after = f.after; k.field = f.field; k.number = f.number;
                k.answered = f.answered;
                c.flyers.add(k);
            }
            c.rules.addAll(rules);
            c.tape = tape;
            c.waits.addAll(waits);
            c.minute = minute; c.weather = weather; c.speed = speed;
            return c;
        }

        boolean seen(int cell) {
            return masts.stream().anyMatch(m -> !m.jammed
                && sq(m.cell % 16 - cell % 16) + sq(m.cell / 16 - cell / 16) <= sq(m.reach));
        }

        boolean heard(int cell) {
            return posts.stream().anyMatch(p -> p.ear - weather >= 0 && apart(p.cell, cell) <= p.ear - weather);
        }

        boolean follow(int p, int q) {
            Plot a = plots.get(p), b = plots.get(q);
            return b.minute > a.minute && apart(a.cell, b.cell) <= speed * (b.minute - a.minute);
        }

        int nearest(int cell) {
            return flyers.stream().filter(f -> f.isRaid() && f.up == 0).mapToInt(f -> apart(f.cell, cell)).min().orElse(99);
        }

        Rule force(int use, int minute) {
            Rule r = null;
            for (Rule x : rules) {
                if (x.use == use && x.from <= minute) r = x;
            }
            return r;
        }

        boolean siren(Town t) {
            Rule r = force(0, minute);
            int f = nearest(t.cell);
            if (r == null) return f < 3;
            int m = flyers.stream().filter(x -> x.isRaid() && x.up == 0).mapToInt(x -> x.many).sum();
            return new Reading(r.text, r.use).worth(f, m, weather, minute) != 0;
        }

        boolean hostile(Flyer f) {
            Rule r = force(1, minute);
            if (r == null) return f.kind < 3;
            return new Reading(r.text, r.use).worth(f.pace, f.height, f.answered ? 1 : 0, f.many) != 0;
        }

        int down() { return (int) flyers.stream().filter(f -> f.isFlight() && f.up == 1).count(); }

        int kept() {
            Rule r = force(2, minute);
            if (r == null) return 0;
            int u = (int) flyers.stream().filter(f -> f.isFlight() && f.up == 0).count();
            int k = new Reading(r.text, r.use).worth(down(), u, 0, 0);
            return k < 0 ? 0 : k > 16 ? 16 : k;
        }

        void minuteEnds() {
            minute++;
            for (Flyer f : flyers) {
                if (f.isFlight() || f.up != 0) continue;
                int x = f.cell % 16 + f.pace * WAYS[f.way][0];
                int y = f.cell / 16 + f.pace * WAYS[f.way][1];
                if (x < 0 || x > 15 || y < 0 || y > 15) f.up = 2; else f.cell = 16 * y + x;
            }
            for (Flyer f : flyers) {
                if (f.isFlight() && f.up == 0) flightGoes(f);
            }
            for (Town t : towns) {
                t.siren = siren(t);
                if (t.siren) {
                    t.lost++;
                } else {
                    for (Flyer f : flyers) {
                        if (f.isRaid() && f.up == 0 && f.cell == t.cell) t.hits += f.kind == 2 ? 1 : f.many;
                    }
                }
            }
        }

        void flightGoes(Flyer f) {
            f.fuel--;
            if (f.fuel < 0) {
                f.fuel = 0;
                f.up = 2;
                f.after = -1;
                return;
            }
            if (f.after >= 0 && flyers.get(f.after).up != 0) f.after = -1;
            Flyer of = f.after < 0 ? null : flyers.get(f.after);
            int cell = of == null ? fields.get(f.field) : of.cell;
            int height = of == null ? 0 : of.height;
            for (int i = 0; i < 10 && f.height != height; i++) f.height += f.height < height ? 1 : -1;
            for (int i = 0; i < 2; i++) f.cell = step(f.cell, cell);
            if (of != null && f.height >= of.height && apart(f.cell, of.cell) <= 1) {
                while (f.rounds > 0 && of.many > 0) { f.rounds--; of.many--; }
                if (of.many == 0) of.up = 2;
                if (f.rounds == 0) f.after = -1;
            }
            if (f.after < 0 && f.cell == fields.get(f.field)) {
                f.up = 1;
                f.height = 0;
            }
        }
    }

    static int sq(int a) { return a * a; }
    static int apart(int a, int b) { return Math.max(Math.abs(a % 16 - b % 16), Math.abs(a / 16 - b / 16)); }
    static int step(int cell, int to) {
        return cell + Integer.signum(to % 16 - cell % 16) + 16 * Integer.signum(to / 16 - cell / 16);
    }
    static boolean isCell(int c) { return 0 <= c && c < 256; }
    static boolean in(int v, int a, int b) { return a <= v && v <= b; }

    /** Reads a text sign by sign with a stack of what is open, and works it out by ranks. */
    static final class Reading {
        final String text;
        final int use;
        private List<Integer> values;
        private List<Character> signs;

        Reading(String text, int use) { this.text = text; this.use = use; }

        /** -1: it is a text. */
        int fault() {
            boolean operand = true;
            int digits = 0;
            List<Character> open = new ArrayList<>();
            List<Boolean> likened = new ArrayList<>(List.of(false));
            for (int i = 0; i < text.length(); i++) {
                char c = text.charAt(i);
                if (operand) {
                    if (Character.isDigit(c) && c < 128 || NAMES[use].indexOf(c) >= 0) {
                        operand = false;
                        digits = Character.isDigit(c) ? 1 : 9;
                        while (!open.isEmpty() && open.get(open.size() - 1) == '!') open.remove(open.size() - 1);
                    } else if ((c == '!' || c == '(') && open.size() < 5) {
                        open.add(c);
                        if (c == '(') likened.add(false);
                    } else {
                        return i;
                    }
                } else if (c >= '0' && c <= '9' && digits < 3) {
                    digits++;
                } else if (c == ')' && open.contains('(')) {
                    open.remove(open.size() - 1);
                    likened.remove(likened.size() - 1);
                    while (!open.isEmpty() && open.get(open.size() - 1) == '!') open.remove(open.size() - 1);
                    digits = 9;
                } else if ("|&+-*".indexOf(c) >= 0 || "<=>".indexOf(c) >= 0 && !likened.get(likened.size() - 1)) {
                    operand = true;
                    if ("|&".indexOf(c) >= 0) likened.set(likened.size() - 1, false);
                    if ("<=>".indexOf(c) >= 0) likened.set(likened.size() - 1, true);
                } else {
                    return i;
                }
            }
            return operand || open.contains('(') ? text.length() : -1;
        }

        int worth(int... names) {
            values = new ArrayList<>();
            signs = new ArrayList<>();
            for (int i = 0; i < text.length(); i++) {
                char c = text.charAt(i);
                if (c >= '0' && c <= '9') {
                    int from = i;
                    while (i + 1 < text.length() && Character.isDigit(text.charAt(i + 1))) i++;
                    values.add(Integer.parseInt(text.substring(from, i + 1)));
                } else if (c == '!' || c == '(') {
                    signs.add(c);
                } else if (c == ')') {
                    settle(0);
                    signs.remove(signs.size() - 1);
                } else if (rank(c) > 0) {
                    settle(rank(c));
                    signs.add(c);
                } else {
                    values.add(names[NAMES[use].indexOf(c)]);
                }
            }
            settle(0);
            return values.get(0);
        }

        private static int rank(char c) {
            return switch (c) {
                case '|' -> 1;
                case '&' -> 2;
                case '<', '=', '>' -> 3;
                case '+', '-' -> 4;
                case '*' -> 5;
                case '!' -> 6;
                default -> 0;
            };
        }

        private int pop() { return values.remove(values.size() - 1); }

        private void settle(int rank) {
            while (!signs.isEmpty() && signs.get(signs.size() - 1) != '(' && rank(signs.get(signs.size() - 1)) >= rank) {
                char c = signs.remove(signs.size() - 1);
                int b = pop();
                if (c == '!') {
                    values.add(b == 0 ? 1 : 0);
                    continue;
                }
                int a = pop();
                values.add(switch (c) {
                    case '|' -> (a != 0 | b != 0) ? 1 : 0;
                    case '&' -> (a != 0 & b != 0) ? 1 : 0;
                    case '<' -> a < b ? 1 : 0;
                    case '=' -> a == b ? 1 : 0;
                    case '>' -> a > b ? 1 : 0;
                    case '+' -> a + b;
                    case '-' -> a - b;
                    default -> a * b;
                });
            }
        }
    }

    // ---- the calls

    private int beyond() { findings[1]++; return LOW - 1; }
    private int none() { findings[2]++; return LOW - 2; }
    private int state() { findings[3]++; return LOW - 3; }
    private int full() { findings[4]++; return LOW - 4; }
    private int kind() { findings[5]++; return LOW - 5; }

    int mast(int cell, int reach) {
        if (!isCell(cell) || !in(reach, 1, 15)) return beyond();
        if (s.masts.size() == 6) return full();
        Mast m = new Mast();
        m.cell = cell;
        m.reach = reach;
        s.masts.add(m);
        return s.masts.size() - 1;
    }

    int jam(int mast, boolean is) {
        if (!in(mast, 0, s.masts.size() - 1)) return beyond();
        Mast m = s.masts.get(mast);
        if (m.jammed == is) return 0;
        m.jammed = is;
        return 1;
    }

    int post(int cell, int ear) {
        if (!isCell(cell) || !in(ear, 0, 15)) return beyond();
        if (s.posts.size() == 8) return full();
        Post p = new Post();
        p.cell = cell;
        p.ear = ear;
        s.posts.add(p);
        return s.posts.size() - 1;
    }

    int set(int what, int v) {
        if (!in(what, 0, 1) || !in(v, what, 9)) return beyond();
        int was = what == 0 ? s.weather : s.speed;
        if (what == 0) s.weather = v; else s.speed = v;
        return was;
    }

    int watched(int cell) {
        if (!isCell(cell)) return beyond();
        int w = 0;
        if (s.seen(cell)) w |= 1;
        if (s.heard(cell)) w |= 2;
        return w;
    }

    int field(int cell) {
        if (!isCell(cell)) return beyond();
        if (s.fields.size() == 5) return full();
        s.fields.add(cell);
        return s.fields.size() - 1;
    }

    int town(int cell) {
        if (!isCell(cell)) return beyond();
        if (s.towns.size() == 6) return full();
        Town t = new Town();
        t.cell = cell;
        s.towns.add(t);
        return s.towns.size() - 1;
    }

    int townIs(int town, int what) {
        if (!in(town, 0, s.towns.size() - 1) || !in(what, 0, 4)) return beyond();
        Town t = s.towns.get(town);
        return switch (what) {
            case 0 -> t.cell;
            case 1 -> t.siren ? 1 : 0;
            case 2 -> t.lost;
            case 3 -> t.hits;
            default -> s.nearest(t.cell);
        };
    }

    private void addPlot(int cell, int many) {
        Plot p = new Plot();
        p.cell = cell;
        p.many = many;
        p.minute = s.minute;
        s.plots.add(p);
    }

    int plot(int cell, int many) {
        if (!isCell(cell) || !in(many, 1, 9)) return beyond();
        if (!s.seen(cell) && !s.heard(cell)) return state();
        if (s.plots.size() == 24) return full();
        addPlot(cell, many);
        return s.plots.size() - 1;
    }

    int plots(int sheet) {
        if (!in(sheet, 0, 3)) return beyond();
        if (sheets[sheet] == null) return none();
        int[] at = sheets[sheet].at;
        if (at.length % 2 == 1) return kind();
        List<int[]> made = new ArrayList<>();
        for (int i = 0; i < at.length; i += 2) {
            if (at[i] == -1) continue;
            if (!isCell(at[i]) || !in(at[i + 1], 1, 9)) return beyond();
            if (s.seen(at[i]) || s.heard(at[i])) made.add(new int[] {at[i], at[i + 1]});
        }
        if (s.plots.size() + made.size() > 24) return full();
        for (int[] m : made) addPlot(m[0], m[1]);
        return made.size();
    }

    int plotIs(int plot, int what) {
        if (!in(plot, 0, s.plots.size() - 1) || !in(what, 0, 2)) return beyond();
        Plot p = s.plots.get(plot);
        return what == 0 ? p.cell : what == 1 ? p.many : p.minute;
    }

    int follows(int p, int q) {
        if (!in(p, 0, s.plots.size() - 1) || !in(q, 0, s.plots.size() - 1)) return beyond();
        return s.follow(p, q) ? 1 : 0;
    }

    private boolean noPlots(int set) {
        for (int i = 0; i < 32; i++) {
            if ((set >> i & 1) == 1 && i >= s.plots.size()) return true;
        }
        return false;
    }

    private static List<Integer> members(int set) {
        List<Integer> all = new ArrayList<>();
        for (int i = 0; i < 32; i++) {
            if ((set >> i & 1) == 1) all.add(i);
        }
        return all;
    }

    /** Every way to pair, in order; the first of the best stays. */
    private static final class Tries {
        int[][] cost;
        int columns;
        int most;
        int bestPairs = -1;
        int bestSum;
        int[] best;

        void go(int row, int[] chosen, boolean[] used, int pairs, int sum) {
            if (row == cost.length) {
                if (pairs > bestPairs || pairs == bestPairs && sum < bestSum) {
                    bestPairs = pairs;
                    bestSum = sum;
                    best = chosen.clone();
                }
                return;
            }
            if (pairs + cost.length - row < bestPairs) return;
            for (int c = 0; c < columns && pairs < most; c++) {
                if (used[c] || cost[row][c] < 0) continue;
                used[c] = true;
                chosen[row] = c;
                go(row + 1, chosen, used, pairs + 1, sum + cost[row][c]);
                used[c] = false;
            }
            chosen[row] = -1;
            go(row + 1, chosen, used, pairs, sum);
        }
    }

    private static Tries tries(int[][] cost, int columns, int most) {
        Tries t = new Tries();
        t.cost = cost;
        t.columns = columns;
        t.most = most;
        t.go(0, new int[cost.length], new boolean[columns], 0, 0);
        return t;
    }

    int tracking(int set, int what) {
        if (noPlots(set) || what < -2) return beyond();
        List<Integer> m = members(set);
        if (m.isEmpty() || m.size() > 9) return kind();
        if (what >= 0 && !m.contains(what)) return none();
        int[][] cost = new int[m.size()][m.size()];
        for (int r = 0; r < m.size(); r++) {
            for (int c = 0; c < m.size(); c++) {
                cost[r][c] = s.follow(m.get(c), m.get(r)) ? apart(s.plots.get(m.get(c)).cell, s.plots.get(m.get(r)).cell) : -1;
            }
        }
        Tries t = tries(cost, m.size(), 99);
        if (what == -1) return m.size() - t.bestPairs;
        if (what == -2) return t.bestSum;
        int c = t.best[m.indexOf(what)];
        return c < 0 ? -1 : m.get(c);
    }

    int judge(int set, int sheet) {
        if (noPlots(set) || !in(sheet, 0, 3)) return beyond();
        if (sheets[sheet] == null) return none();
        List<Integer> m = members(set);
        int[] at = sheets[sheet].at;
        if (m.isEmpty() || m.size() > 9 || m.size() != at.length) return kind();
        int tracks = 0;
        List<Integer> followed = new ArrayList<>();
        for (int i = 0; i < at.length; i++) {
            if (at[i] == -1) {
                tracks++;
                continue;
            }
            if (!m.contains(at[i]) || followed.contains(at[i]) || !s.follow(at[i], m.get(i))) return -1;
            followed.add(at[i]);
        }
        return tracks;
    }

    private boolean noFlyer(int f) { return !in(f, 0, s.flyers.size() - 1); }

    private int addFlyer(Flyer f, int cell, int many) {
        f.cell = cell;
        f.many = many;
        f.number = s.flyers.size();
        s.flyers.add(f);
        return f.number;
    }

    int flyer(int kind, int cell, int told, int many) {
        boolean good = false;
        int p = 0, w = 0, h = 0;
        for (int i = 0; i < 4; i++) {
            for (int j = 0; j < 8; j++) {
                int rest = told - 1000 * i - 100 * j;
                if (in(rest, 0, 99)) { good = true; p = i; w = j; h = rest; }
            }
        }
        if (!in(kind, 0, 3) || !isCell(cell) || !good || !in(many, 1, 9)) return beyond();
        if (s.flyers.size() == 16) return full();
        Flyer f = ofKind(kind);
        f.pace = p;
        f.way = w;
        f.height = h;
        return addFlyer(f, cell, many);
    }

    int flight(int field, int fuel, int rounds, int many, boolean patrol) {
        if (!in(field, 0, s.fields.size() - 1) || !in(fuel, 0, 99) || !in(rounds, 0, 99) || !in(many, 1, 9)) return beyond();
        if (s.flyers.size() == 16) return full();
        Flyer f = ofKind(patrol ? 5 : 4);
        f.up = 1;
        f.field = field;
        f.fuel = fuel;
        f.rounds = rounds;
        return addFlyer(f, s.fields.get(field), many);
    }

    int as(int flyer, int kind) {
        if (noFlyer(flyer) || !in(kind, 0, 5)) return beyond();
        Flyer f = s.flyers.get(flyer);
        return under(f.kind, kind) ? f.many : kind();
    }

    int flyerIs(int flyer, int what) {
        if (noFlyer(flyer) || !in(what, 0, 11)) return beyond();
        Flyer f = s.flyers.get(flyer);
        return switch (what) {
            case 0 -> f.kind;
            case 1 -> f.cell;
            case 2 -> f.height;
            case 3 -> f.pace;
            case 4 -> f.way;
            case 5 -> f.many;
            case 6 -> f.up;
            case 7 -> f.fuel;
            case 8 -> f.rounds;
            case 9 -> f.after;
            case 10 -> f.answered ? 1 : 0;
            default -> s.hostile(f) ? 1 : 0;
        };
    }

    int answer(int flyer, boolean is) {
        if (noFlyer(flyer)) return beyond();
        Flyer f = s.flyers.get(flyer);
        if (!(f instanceof Friend)) return kind();
        if (f.answered == is) return 0;
        f.answered = is;
        return 1;
    }

    int send(int flight, int flyer) {
        if (noFlyer(flight) || noFlyer(flyer)) return beyond();
        Flyer f = s.flyers.get(flight), o = s.flyers.get(flyer);
        if (!f.isFlight() || o.isFlight()) return kind();
        if (f.up == 2 || o.up != 0) return state();
        if (f.rounds == 0 || f.fuel == 0) return none();
        f.up = 0;
        f.after = flyer;
        return 1;
    }

    int back(int flight) {
        if (noFlyer(flight)) return beyond();
        Flyer f = s.flyers.get(flight);
        if (!f.isFlight()) return kind();
        if (f.up != 0) return state();
        int is = f.after < 0 ? 0 : 1;
        f.after = -1;
        return is;
    }

    int fill(int flight, int fuel, int rounds) {
        if (noFlyer(flight) || !in(fuel, 0, 99) || !in(rounds, 0, 99)) return beyond();
        Flyer f = s.flyers.get(flight);
        if (!f.isFlight()) return kind();
        if (f.up != 1) return state();
        f.fuel = fuel;
        f.rounds = rounds;
        return 1;
    }

    int feed(long word, int n) {
        if (!in(n, 1, 8)) return beyond();
        if (s.tape.length() + n > 50) return full();
        for (int i = 0; i < n; i++) {
            s.tape += (char) (word & 255);
            word >>= 8;
        }
        return s.tape.length();
    }

    int rule(int use, int from) {
        if (!in(use, 0, 2) || !in(from, 0, 1000)) return beyond();
        if (s.rules.size() == 12) return full();
        int fault = new Reading(s.tape, use).fault();
        Rule r = new Rule();
        r.use = use;
        r.from = from;
        r.text = s.tape;
        s.tape = "";
        if (fault >= 0) return -10 - fault;
        s.rules.add(r);
        return s.rules.size() - 1;
    }

    int force(int use, int minute) {
        if (!in(use, 0, 2) || !in(minute, 0, 1000)) return beyond();
        Rule r = s.force(use, minute);
        return r == null ? none() : s.rules.indexOf(r);
    }

    int says(int rule, int a, int b, int c, int d) {
        if (!in(rule, 0, s.rules.size() - 1)) return beyond();
        Rule r = s.rules.get(rule);
        return new Reading(r.text, r.use).worth(a, b, c, d);
    }

    /** Flies the two alone on an empty land; -1: they do not meet. */
    private int meets(int flight, int flyer) {
        if (s.flyers.get(flight).rounds == 0 || s.flyers.get(flight).fuel == 0) return -1;
        State alone = s.copy();
        alone.towns.clear();
        for (int i = 0; i < alone.flyers.size(); i++) {
            if (i != flight && i != flyer) alone.flyers.get(i).up = 2;
        }
        Flyer f = alone.flyers.get(flight);
        f.up = 0;
        f.after = flyer;
        int rounds = f.rounds;
        for (int i = 1; i <= 60; i++) {
            alone.minuteEnds();
            if (f.rounds < rounds) return i;
            if (f.up != 0 || f.after != flyer) return -1;
        }
        return -1;
    }

    int meeting(int flight, int flyer) {
        if (noFlyer(flight) || noFlyer(flyer)) return beyond();
        Flyer f = s.flyers.get(flight), o = s.flyers.get(flyer);
        if (!f.isFlight() || o.isFlight()) return kind();
        if (f.up == 2 || o.up != 0) return state();
        int m = meets(flight, flyer);
        return m < 0 ? none() : s.minute + m;
    }

    int sending(int limit, int what) {
        if (!in(limit, 1, 60) || !in(what, -2, 5)) return beyond();
        List<Integer> flights = new ArrayList<>(), raids = new ArrayList<>();
        for (Flyer f : s.flyers) {
            if (f.isFlight() && f.up == 1 && flights.size() < 6) flights.add(f.number);
            if (f.isRaid() && f.up == 0 && raids.size() < 6) raids.add(f.number);
        }
        if (what >= raids.size()) return none();
        int[][] cost = new int[raids.size()][flights.size()];
        for (int r = 0; r < raids.size(); r++) {
            for (int f = 0; f < flights.size(); f++) {
                int m = meets(flights.get(f), raids.get(r));
                cost[r][f] = m < 0 || m > limit ? -1 : s.minute + m;
            }
        }
        Tries t = tries(cost, flights.size(), s.down() - s.kept());
        if (what == -1) return t.bestPairs;
        if (what == -2) return t.bestSum;
        return t.best[what] < 0 ? -1 : flights.get(t.best[what]);
    }

    private final Map<Integer, Boolean> dead = new HashMap<>();

    private boolean duty(int[] needs, int[] days, int d) {
        if (d == needs.length) return true;
        int a = d > 1 ? days[d - 2] : 0, b = d > 0 ? days[d - 1] : 0;
        int key = d * 4096 + a * 64 + b;
        if (dead.containsKey(key)) return false;
        for (int set = 0; set < 64; set++) {
            if (Integer.bitCount(set) != needs[d] || (a & b & set) != 0) continue;
            days[d] = set;
            if (duty(needs, days, d + 1)) return true;
        }
        dead.put(key, true);
        return false;
    }

    int pilots(int sheet, int d) {
        if (!in(sheet, 0, 3)) return beyond();
        if (sheets[sheet] == null) return none();
        int[] needs = sheets[sheet].at;
        if (!in(needs.length, 1, 10)) return kind();
        for (int n : needs) {
            if (!in(n, 0, 6)) return kind();
        }
        if (!in(d, 0, needs.length - 1)) return beyond();
        int[] days = new int[needs.length];
        dead.clear();
        return duty(needs, days, 0) ? days[d] : state();
    }

    int laying(int masts, int cells, int k, int what) {
        if (!in(masts, 0, 3) || !in(cells, 0, 3) || !in(k, 1, 4) || !in(what, -1, 0)) return beyond();
        if (sheets[masts] == null || sheets[cells] == null) return none();
        int[] m = sheets[masts].at, c = sheets[cells].at;
        if (m.length == 0 || m.length % 3 != 0) return kind();
        for (int i = 0; i < m.length; i++) {
            if (!in(m[i], i % 3 == 2 ? 1 : 0, 15)) return kind();
        }
        for (int cell : c) {
            if (!isCell(cell)) return kind();
        }
        int n = m.length / 3;
        if (n < k) return state();
        int best = -1, set = 0;
        for (int t = 0; t < 1 << n; t++) {
            if (Integer.bitCount(t) != k) continue;
            int worst = 99;
            for (int out : members(t)) {
                int sum = 0;
                for (int cell : c) {
                    boolean is = false;
                    for (int i : members(t)) {
                        is |= i != out && sq(m[3 * i] - cell % 16) + sq(m[3 * i + 1] - cell / 16) <= sq(m[3 * i + 2]);
                    }
                    if (is) sum++;
                }
                worst = Math.min(worst, sum);
            }
            if (worst > best) {
                best = worst;
                set = t;
            }
        }
        return what == -1 ? best : set;
    }

    int minutes(int n) {
        if (!in(n, 1, 200) || s.minute + n > 1000) return beyond();
        for (int i = 0; i < n; i++) s.minuteEnds();
        return s.minute;
    }

    int ahead(int n, int what, int i) {
        if (!in(n, 0, 200) || s.minute + n > 1000 || !in(what, 0, 5)) return beyond();
        if (!in(i, 0, (what < 4 ? s.flyers.size() : s.towns.size()) - 1)) return beyond();
        State then = s.copy();
        for (int k = 0; k < n; k++) then.minuteEnds();
        return switch (what) {
            case 0 -> then.flyers.get(i).cell;
            case 1 -> then.flyers.get(i).height;
            case 2 -> then.flyers.get(i).many;
            case 3 -> then.flyers.get(i).up;
            case 4 -> then.towns.get(i).lost;
            default -> then.towns.get(i).hits;
        };
    }

    int voice(int flyer, int act, int x) {
        if (noFlyer(flyer) || !in(act, 0, 3)) return beyond();
        Flyer f = s.flyers.get(flyer);
        f.bodies = new ArrayList<>();
        int v = act == 0 ? f.go(x) : act == 1 ? f.join(x) : act == 2 ? f.burn(x) : f.tell(x);
        trace = f.bodies.size() > 40 ? f.bodies.subList(0, 40) : f.bodies;
        return v;
    }

    int trace(int i) { return in(i, 0, trace.size() - 1) ? trace.get(i) : none(); }

    int sheet(int sheet, int bits, int n) {
        if (!in(sheet, 0, 3) || bits != 0 && bits != 8 && bits != 16 && bits != 32) return beyond();
        if (bits == 0) {
            sheets[sheet] = null;
            return 1;
        }
        if (n < 0) return state();
        if (n > 24) return beyond();
        sheets[sheet] = new Sheet();
        sheets[sheet].bits = bits;
        sheets[sheet].at = new int[n];
        return 1;
    }

    int put(int sheet, int i, int v) {
        if (!in(sheet, 0, 3)) return beyond();
        Sheet x = sheets[sheet];
        if (x == null) return none();
        if (!in(i, 0, x.at.length - 1)) return beyond();
        x.at[i] = v << 32 - x.bits >> 32 - x.bits;
        return 1;
    }

    int move(int sheet, int i, int other, int j, int n) {
        if (!in(sheet, 0, 3) || !in(other, 0, 3)) return beyond();
        Sheet a = sheets[sheet], b = sheets[other];
        if (a == null || b == null) return none();
        if (a.bits != b.bits) return kind();
        if (n < 0 || i < 0 || j < 0 || (long) i + n > a.at.length || (long) j + n > b.at.length) return beyond();
        int[] were = a.at.clone();
        for (int k = 0; k < n; k++) b.at[j + k] = were[i + k];
        return n;
    }

    int image() {
        image = s.copy();
        return ++images;
    }

    int restore() {
        if (image == null) return none();
        s = image.copy();
        return s.minute;
    }

    int tell(int v) {
        if (s.waits.size() == 20) return full();
        s.waits.add(v);
        return s.waits.size();
    }

    int check() {
        List<Integer> told = s.waits;
        s.waits = new ArrayList<>();
        for (int i = 0; i < told.size(); i++) {
            if (i >= s.flyers.size() || s.flyers.get(i).many != told.get(i)) return 1 + i;
        }
        return 0;
    }

    int count(int what) {
        return switch (what) {
            case 0 -> s.masts.size();
            case 1 -> s.posts.size();
            case 2 -> s.plots.size();
            case 3 -> s.fields.size();
            case 4 -> s.towns.size();
            case 5 -> s.flyers.size();
            case 6 -> s.rules.size();
            case 7 -> s.minute;
            case 8 -> s.tape.length();
            case 9 -> trace.size();
            case 10 -> s.waits.size();
            case 11 -> (int) s.flyers.stream().filter(f -> f.isRaid() && f.up == 0).count();
            case 12 -> s.down();
            case 13 -> s.towns.stream().mapToInt(t -> t.lost).sum();
            case 14 -> s.towns.stream().mapToInt(t -> t.hits).sum();
            case 15 -> {
                int n = 0;
                for (int c = 0; c < 256; c++) n += s.seen(c) ? 1 : 0;
                yield n;
            }
            default -> beyond();
        };
    }

    int found(int k) { return in(k, 1, 5) ? findings[k] : beyond(); }
}
