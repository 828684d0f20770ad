import java.util.ArrayList;
import java.util.List;

/** Makes the same calls on a room and on the model, and keeps the first answers that differ. */
final class Caller {
    private static final String[] SIGNS = {"|", "&", "<", "=", ">", "+", "-", "*"};

    final RaidRoom room = new RaidRoom();
    final Model model = new Model();
    private final Dice dice;
    private final List<String> log = new ArrayList<>();
    String wrong = null;
    int calls = 0;

    Caller(long seed) {
        dice = new Dice(seed);
    }

    void same(String call, int got, int due) {
        calls++;
        log.add(call + " = " + due);
        if (got != due && wrong == null) {
            int from = Math.max(0, log.size() - 40);
            wrong = ".. " + from + " calls more ..\n  " + String.join("\n  ", log.subList(from, log.size()))
                + "\n  but the room answered " + got;
        }
    }

    private int a(int least, int most) {
        return dice.near(least, most);
    }

    private int cell() {
        // Cells close to each other, so that something happens.
        if (dice.once(3)) {
            return a(0, 255);
        }
        return 16 * dice.from(5, 10) + dice.from(5, 10);
    }

    private int known(int what) {
        return a(0, Math.max(0, model.count(what) - 1));
    }

    /** A flyer of the kinds from .. to if there is one, most often. */
    private int flyerOf(int least, int most) {
        List<Integer> all = new ArrayList<>();
        for (int i = 0; i < model.count(5); i++) {
            int kind = model.flyerIs(i, 0);
            if (kind >= least && kind <= most && (model.flyerIs(i, 6) != 2 || dice.once(4))) {
                all.add(i);
            }
        }
        return all.isEmpty() || dice.once(15) ? known(5) : all.get(dice.below(all.size()));
    }

    private int aSet() {
        int n = model.count(2);
        if (n == 0 || dice.once(30)) {
            return (int) dice.next();
        }
        int set = 0;
        int many = dice.from(0, 10);
        for (int i = 0; i < many; i++) {
            set |= 1 << dice.from(Math.max(0, n - 13), n - 1);
        }
        return dice.once(40) ? set | 1 << n : set;
    }

    private String text(int use, int deep) {
        StringBuilder b = new StringBuilder();
        b.append(operand(use, deep));
        for (int i = dice.below(3); i > 0; i--) {
            b.append(SIGNS[dice.below(SIGNS.length)]).append(operand(use, deep));
        }
        return b.toString();
    }

    private String operand(int use, int deep) {
        int k = dice.below(10);
        if (k < 2 && deep > 0) {
            return "!" + operand(use, deep - 1);
        }
        if (k < 4 && deep > 0) {
            return "(" + text(use, deep - 1) + ")";
        }
        String names = Model.NAMES[use];
        return k < 8 ? "" + names.charAt(dice.below(names.length())) : "" + dice.below(dice.once(5) ? 2000 : 12);
    }

    private String spoilt(String text) {
        if (!dice.once(3)) {
            return text;
        }
        int at = dice.below(text.length() + 1);
        String all = "fmwtshandu0123456789!()|&<=>+-* x\u00e9";
        String sign = dice.once(5) ? "" + (char) dice.below(256) : "" + all.charAt(dice.below(all.length()));
        switch (dice.below(3)) {
            case 0: return text.substring(0, at) + sign + text.substring(at);
            case 1: return text.substring(0, at);
            default: return at < text.length() ? text.substring(0, at) + sign + text.substring(at + 1) : text + sign;
        }
    }

    void feedText(String text) {
        String b = text;
        while (!b.isEmpty()) {
            int n = Math.min(8, b.length());
            long word = 0;
            for (int i = n - 1; i >= 0; i--) {
                word = word << 8 | b.charAt(i) & 255;
            }
            feed(word, n);
            b = b.substring(n);
        }
    }

    private void feed(long word, int n) {
        same("feed(" + word + "L, " + n + ")", room.feed(word, n), model.feed(word, n));
    }

    void land() {
        switch (dice.below(9)) {
            case 0: { int c = cell(), r = a(1, 15); same("mast(" + c + ", " + r + ")", room.mast(c, r), model.mast(c, r)); break; }
            case 1: { int m = known(0); boolean is = dice.once(2); same("jam(" + m + ", " + is + ")", room.jam(m, is), model.jam(m, is)); break; }
            case 2: { int c = cell(), e = a(0, 15); same("post(" + c + ", " + e + ")", room.post(c, e), model.post(c, e)); break; }
            case 3: { int w = a(0, 1), v = a(0, 9); same("set(" + w + ", " + v + ")", room.set(w, v), model.set(w, v)); break; }
            case 4: case 5: { int c = cell(); same("watched(" + c + ")", room.watched(c), model.watched(c)); break; }
            case 6: { int c = cell(); same("field(" + c + ")", room.field(c), model.field(c)); break; }
            case 7: { int c = cell(); same("town(" + c + ")", room.town(c), model.town(c)); break; }
            default: { int t = known(4), w = a(0, 4); same("townIs(" + t + ", " + w + ")", room.townIs(t, w), model.townIs(t, w)); break; }
        }
    }

    void plots() {
        switch (dice.below(10)) {
            case 0: case 1: case 2: { int c = cell(), m = a(1, 9); same("plot(" + c + ", " + m + ")", room.plot(c, m), model.plot(c, m)); break; }
            case 3: { int s = a(0, 3); same("plots(" + s + ")", room.plots(s), model.plots(s)); break; }
            case 4: { int p = known(2), w = a(0, 2); same("plotIs(" + p + ", " + w + ")", room.plotIs(p, w), model.plotIs(p, w)); break; }
            case 5: { int p = known(2), q = known(2); same("follows(" + p + ", " + q + ")", room.follows(p, q), model.follows(p, q)); break; }
            case 6: case 7: {
                int s = aSet();
                for (int w : new int[] {-1, -2, a(-2, 24), known(2), Integer.numberOfTrailingZeros(Integer.highestOneBit(s))}) {
                    same("tracking(" + s + ", " + w + ")", room.tracking(s, w), model.tracking(s, w));
                }
                break;
            }
            case 8: { int s = aSet(), h = a(0, 3); same("judge(" + s + ", " + h + ")", room.judge(s, h), model.judge(s, h)); break; }
            default: judged(); break;
        }
    }

    /** A sheet that holds the tracking, or what is nearly one. */
    private void judged() {
        int set = aSet();
        int n = Integer.bitCount(set);
        // What only the model were asked would be counted by its found() alone.
        if (n < 1 || n > 9 || set >>> model.count(2) != 0) {
            return;
        }
        int s = dice.below(4);
        sheet(s, 8, n);
        int row = 0;
        for (int p = 0; p < 24; p++) {
            if ((set >> p & 1) != 0) {
                int v = dice.once(8) ? a(-1, 23) : model.tracking(set, p);
                put(s, row++, v);
            }
        }
        same("judge(" + set + ", " + s + ")", room.judge(set, s), model.judge(set, s));
    }

    private void sheet(int s, int bits, int n) {
        same("sheet(" + s + ", " + bits + ", " + n + ")", room.sheet(s, bits, n), model.sheet(s, bits, n));
    }

    private void put(int s, int i, int v) {
        same("put(" + s + ", " + i + ", " + v + ")", room.put(s, i, v), model.put(s, i, v));
    }

    void flyers() {
        switch (dice.below(12)) {
            case 0: case 1: {
                int k = dice.once(2) ? a(1, 2) : a(0, 3), c = cell(), m = a(1, 9);
                int t = dice.once(12) ? a(0, 3800) : 1000 * dice.below(dice.once(4) ? 4 : 2) + 100 * dice.below(8) + dice.below(dice.once(3) ? 100 : 21);
                same("flyer(" + k + ", " + c + ", " + t + ", " + m + ")", room.flyer(k, c, t, m), model.flyer(k, c, t, m));
                break;
            }
            case 2: case 3: {
                int f = known(3), u = dice.once(3) ? a(0, 4) : a(0, 99), r = dice.once(2) ? a(0, 99) : a(0, 9), m = a(1, 9);
                boolean p = dice.once(2);
                same("flight(" + f + ", " + u + ", " + r + ", " + m + ", " + p + ")", room.flight(f, u, r, m, p), model.flight(f, u, r, m, p));
                break;
            }
            case 4: { int f = known(5), k = a(0, 5); same("as(" + f + ", " + k + ")", room.as(f, k), model.as(f, k)); break; }
            case 5: { int f = known(5), w = a(0, 11); same("flyerIs(" + f + ", " + w + ")", room.flyerIs(f, w), model.flyerIs(f, w)); break; }
            case 6: { int f = flyerOf(3, 5); boolean is = dice.once(2); same("answer(" + f + ", " + is + ")", room.answer(f, is), model.answer(f, is)); break; }
            case 7: case 8: case 9: { int f = flyerOf(4, 5), o = flyerOf(0, 3); same("send(" + f + ", " + o + ")", room.send(f, o), model.send(f, o)); break; }
            case 10: { int f = flyerOf(4, 5); same("back(" + f + ")", room.back(f), model.back(f)); break; }
            default: { int f = flyerOf(4, 5), u = a(0, 99), r = a(0, 99); same("fill(" + f + ", " + u + ", " + r + ")", room.fill(f, u, r), model.fill(f, u, r)); break; }
        }
    }

    void rules() {
        switch (dice.below(6)) {
            case 0: { feed(dice.next(), a(1, 8)); break; }
            case 1: case 2: {
                int use = dice.below(3);
                feedText(spoilt(text(use, dice.below(8))));
                int u = dice.once(15) ? a(0, 2) : use, from = dice.once(8) ? a(0, 1000) : a(0, Math.min(1000, model.count(7) + 3));
                same("rule(" + u + ", " + from + ")", room.rule(u, from), model.rule(u, from));
                break;
            }
            case 3: { int u = a(0, 2), m = dice.once(3) ? a(0, 1000) : a(0, 30); same("force(" + u + ", " + m + ")", room.force(u, m), model.force(u, m)); break; }
            default: {
                int r = known(6), x = any(), y = any(), z = any(), v = any();
                same("says(" + r + ", " + x + ", " + y + ", " + z + ", " + v + ")", room.says(r, x, y, z, v), model.says(r, x, y, z, v));
                break;
            }
        }
    }

    private int any() {
        return dice.once(4) ? (int) dice.next() : dice.from(-3, 12);
    }

    void plans() {
        switch (dice.below(8)) {
            case 0: case 1: { int f = flyerOf(4, 5), o = flyerOf(0, 3); same("meeting(" + f + ", " + o + ")", room.meeting(f, o), model.meeting(f, o)); break; }
            case 2: case 3: case 4: {
                int l = dice.once(3) ? a(1, 60) : a(2, 15);
                for (int w : new int[] {-1, -2, dice.below(6), a(-2, 5)}) {
                    same("sending(" + l + ", " + w + ")", room.sending(l, w), model.sending(l, w));
                }
                break;
            }
            case 5: {
                int s = dice.below(4), n = dice.once(9) ? dice.from(0, 24) : dice.from(2, 10);
                sheet(s, 8, n);
                for (int i = 0; i < n; i++) {
                    put(s, i, dice.once(60) ? any() : dice.once(4) ? dice.from(0, 6) : dice.from(2, 5));
                }
                for (int k = 0; k < 4; k++) {
                    int d = a(0, Math.max(0, n - 1));
                    same("pilots(" + s + ", " + d + ")", room.pilots(s, d), model.pilots(s, d));
                }
                break;
            }
            case 6: laid(); break;
            default: {
                int m = a(0, 3), c = a(0, 3), k = a(1, 4), w = a(-1, 0);
                same("laying(" + m + ", " + c + ", " + k + ", " + w + ")", room.laying(m, c, k, w), model.laying(m, c, k, w));
                break;
            }
        }
    }

    private void laid() {
        int s = dice.below(4), c = dice.below(4), n = dice.once(9) ? dice.from(0, 24) : 3 * dice.from(2, 8);
        sheet(s, dice.once(2) ? 8 : 32, n);
        for (int i = 0; i < n; i++) {
            put(s, i, dice.once(100) ? any() : i % 3 == 2 ? dice.from(1, 6) : dice.from(0, 15));
        }
        if (c != s) {
            sheet(c, 16, dice.from(0, 24));
            for (int i = 0; i < 24; i++) {
                put(c, i, dice.once(300) ? any() : dice.below(256));
            }
        }
        for (int k = 1; k < 5; k++) {
            same("laying(" + s + ", " + c + ", " + k + ", -1)", room.laying(s, c, k, -1), model.laying(s, c, k, -1));
            same("laying(" + s + ", " + c + ", " + k + ", 0)", room.laying(s, c, k, 0), model.laying(s, c, k, 0));
        }
    }

    void passing() {
        if (dice.once(2)) {
            int n = dice.once(40) ? a(1, 200) : dice.from(1, 3);
            same("minutes(" + n + ")", room.minutes(n), model.minutes(n));
        } else {
            int n = dice.once(6) ? a(0, 200) : dice.from(0, 12), w = a(0, 5), i = known(w < 4 ? 5 : 4);
            same("ahead(" + n + ", " + w + ", " + i + ")", room.ahead(n, w, i), model.ahead(n, w, i));
        }
    }

    void others() {
        switch (dice.below(13)) {
            case 0: case 1: { int f = known(5), w = a(0, 3), x = any(); same("voice(" + f + ", " + w + ", " + x + ")", room.voice(f, w, x), model.voice(f, w, x)); break; }
            case 2: { int i = a(0, 39); same("trace(" + i + ")", room.trace(i), model.trace(i)); break; }
            case 3: { int[] b = {0, 8, 16, 32, 8, 16, 32, 64, -8}; sheet(a(0, 3), b[dice.below(b.length)], a(0, 24)); break; }
            case 4: case 5: { put(a(0, 3), a(0, 12), dice.once(2) ? any() : cell()); break; }
            case 6: { int s = a(0, 3), i = a(0, 10), o = dice.once(2) ? s : a(0, 3), j = a(0, 10), n = a(0, 10);
                same("move(" + s + ", " + i + ", " + o + ", " + j + ", " + n + ")", room.move(s, i, o, j, n), model.move(s, i, o, j, n)); break; }
            case 7: { if (dice.once(4)) { same("image()", room.image(), model.image()); } break; }
            case 8: { if (dice.once(5)) { same("restore()", room.restore(), model.restore()); } break; }
            case 9: { int n = model.count(10), v = n < model.count(5) && !dice.once(9) ? model.flyerIs(n, 5) : any();
                same("tell(" + v + ")", room.tell(v), model.tell(v)); break; }
            case 10: { if (dice.once(3)) { same("check()", room.check(), model.check()); } break; }
            case 11: { int w = a(0, 15); same("count(" + w + ")", room.count(w), model.count(w)); break; }
            default: { int k = a(1, 5); same("found(" + k + ")", room.found(k), model.found(k)); break; }
        }
    }

    /** Sheets of plots, so that plots() has something to read. */
    void plotSheet() {
        int s = dice.below(4), n = dice.once(9) ? dice.from(0, 24) : 2 * dice.from(1, 4);
        sheet(s, dice.once(5) ? 8 : 16, n);
        for (int i = 0; i < n; i++) {
            put(s, i, i % 2 == 1 ? a(1, 9) : dice.once(5) ? -1 : cell());
        }
        same("plots(" + s + ")", room.plots(s), model.plots(s));
    }

    /** Everything that can be asked without changing a thing. */
    void lookAll() {
        for (int w = 0; w <= 15; w++) {
            same("count(" + w + ")", room.count(w), model.count(w));
        }
        for (int f = 0; f < model.count(5); f++) {
            for (int w = 0; w <= 11; w++) {
                same("flyerIs(" + f + ", " + w + ")", room.flyerIs(f, w), model.flyerIs(f, w));
            }
        }
        for (int t = 0; t < model.count(4); t++) {
            for (int w = 0; w <= 4; w++) {
                same("townIs(" + t + ", " + w + ")", room.townIs(t, w), model.townIs(t, w));
            }
        }
        for (int p = 0; p < model.count(2); p++) {
            for (int w = 0; w <= 2; w++) {
                same("plotIs(" + p + ", " + w + ")", room.plotIs(p, w), model.plotIs(p, w));
            }
        }
        for (int i = 0; i < model.count(9); i++) {
            same("trace(" + i + ")", room.trace(i), model.trace(i));
        }
        for (int k = 1; k <= 5; k++) {
            same("found(" + k + ")", room.found(k), model.found(k));
        }
    }

    /** One call, or some that belong together, by what the run is about. */
    void act(int[] weights) {
        int all = 0;
        for (int w : weights) {
            all += w;
        }
        int k = dice.below(all);
        int i = 0;
        while (k >= weights[i]) {
            k -= weights[i++];
        }
        switch (i) {
            case 0: land(); break;
            case 1: plots(); break;
            case 2: flyers(); break;
            case 3: rules(); break;
            case 4: plans(); break;
            case 5: passing(); break;
            case 6: others(); break;
            default: plotSheet(); break;
        }
    }
}
