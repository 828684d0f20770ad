/** A room where flyers are plotted. What each call does stands in DOC.md, by numbered promises. */
public final class RaidRoom {
    private static final int LOW = -1000000;
    private static final int BEYOND = 1;
    private static final int NONE = 2;
    private static final int STATE = 3;
    private static final int FULL = 4;
    private static final int WRONG_KIND = 5;

    private static final int LAST_MINUTE = 1000;
    private static final int MOST_AT_ONCE = 200;

    private static final int FLYER = 0;
    private static final int RAID = 1;
    private static final int SPOOF = 2;
    private static final int FRIEND = 3;
    private static final int FLIGHT = 4;
    private static final int PATROL = 5;

    private static final int UP = 0;
    private static final int DOWN = 1;
    private static final int GONE = 2;

    private static final int SIREN = 0;
    private static final int HOSTILE = 1;
    private static final int KEPT = 2;

    // Everything is made here once and used again: what calls make is never given back.
    private final World now = new World();
    private final World kept = new World();
    private final World guess = new World();
    private final Text text = new Text(now.rules.tape);
    private final Sheets sheets = new Sheets();
    private final Matching matching = new Matching();
    private final Roster roster = new Roster();
    private final Laying laid = new Laying();
    private final Voices voices = new Voices();
    private final int[] findings = new int[WRONG_KIND + 1];
    private int images = 0;

    public RaidRoom() {
    }

    // ---- the land

    public int mast(int cell, int reach) {
        if (!Moves.isCell(cell) || !within(reach, 1, 15)) {
            return finding(BEYOND);
        }
        int mast = now.masts.add(cell);
        if (mast < 0) {
            return finding(FULL);
        }
        now.masts.write(mast, World.REACH, reach);
        return mast;
    }

    public int jam(int mast, boolean is) {
        return now.masts.has(mast) ? changed(now.masts, mast, World.JAMMED, is) : finding(BEYOND);
    }

    public int post(int cell, int ear) {
        if (!Moves.isCell(cell) || !within(ear, 0, 15)) {
            return finding(BEYOND);
        }
        int post = now.posts.add(cell);
        if (post < 0) {
            return finding(FULL);
        }
        now.posts.write(post, World.EAR, ear);
        return post;
    }

    public int set(int what, int v) {
        if (what == 0 && within(v, 0, 9)) {
            int was = now.weather;
            now.weather = v;
            return was;
        }
        if (what == 1 && within(v, 1, 9)) {
            int was = now.speed;
            now.speed = v;
            return was;
        }
        return finding(BEYOND);
    }

    public int watched(int cell) {
        if (!Moves.isCell(cell)) {
            return finding(BEYOND);
        }
        return (now.isSeen(cell) ? 1 : 0) + (now.isHeard(cell) ? 2 : 0);
    }

    public int field(int cell) {
        if (!Moves.isCell(cell)) {
            return finding(BEYOND);
        }
        return numberOrFull(now.fields.add(cell));
    }

    public int town(int cell) {
        if (!Moves.isCell(cell)) {
            return finding(BEYOND);
        }
        return numberOrFull(now.towns.add(cell));
    }

    public int townIs(int town, int what) {
        if (!now.towns.has(town) || !within(what, 0, 4)) {
            return finding(BEYOND);
        }
        return what == 4 ? now.nearestRaid(now.towns.get(town, World.AT)) : now.towns.get(town, what);
    }

    // ---- plots

    public int plot(int cell, int many) {
        if (!isTold(cell, many)) {
            return finding(BEYOND);
        }
        if (!now.isWatched(cell)) {
            return finding(STATE);
        }
        return numberOrFull(now.addPlot(cell, many));
    }

    public int plots(int sheet) {
        int why = sheets.wanting(sheet);
        if (why != 0) {
            return finding(why);
        }
        if (sheets.size(sheet) % 2 != 0) {
            return finding(WRONG_KIND);
        }
        int more = 0;
        for (int i = 0; i < sheets.size(sheet); i += 2) {
            int cell = sheets.get(sheet, i);
            if (cell != -1 && !isTold(cell, sheets.get(sheet, i + 1))) {
                return finding(BEYOND);
            }
            more += cell != -1 && now.isWatched(cell) ? 1 : 0;
        }
        if (now.plots.size() + more > World.MOST_PLOTS) {
            return finding(FULL);
        }
        addPlots(sheet);
        return more;
    }

    private void addPlots(int sheet) {
        for (int i = 0; i < sheets.size(sheet); i += 2) {
            int cell = sheets.get(sheet, i);
            if (cell != -1 && now.isWatched(cell)) {
                now.addPlot(cell, sheets.get(sheet, i + 1));
            }
        }
    }

    public int plotIs(int plot, int what) {
        return now.plots.has(plot) && within(what, 0, 2) ? now.plots.get(plot, what) : finding(BEYOND);
    }

    public int follows(int p, int q) {
        if (!now.plots.has(p) || !now.plots.has(q)) {
            return finding(BEYOND);
        }
        return now.mayBeFollowed(p, q) ? 1 : 0;
    }

    public int tracking(int set, int what) {
        if (!arePlots(set) || what < -2) {
            return finding(BEYOND);
        }
        if (!within(Integer.bitCount(set), 1, Matching.MOST)) {
            return finding(WRONG_KIND);
        }
        if (what >= 0 && !isIn(set, what)) {
            return finding(NONE);
        }
        matchPlots(set);
        matching.solve(Matching.MOST);
        if (what == -1) {
            return Integer.bitCount(set) - matching.pairs();
        }
        return what == -2 ? matching.sum() : matching.partner(matching.rows.indexOf(what));
    }

    private void matchPlots(int set) {
        matching.begin();
        for (int plot = 0; plot < now.plots.size(); plot++) {
            if (isIn(set, plot)) {
                matching.rows.add(plot);
                matching.columns.add(plot);
            }
        }
        for (int r = 0; r < matching.rows.size(); r++) {
            for (int c = 0; c < matching.columns.size(); c++) {
                int later = matching.rows.get(r, 0);
                int earlier = matching.columns.get(c, 0);
                if (now.mayBeFollowed(earlier, later)) {
                    matching.allow(r, c, now.plotsApart(earlier, later));
                }
            }
        }
    }

    public int judge(int set, int sheet) {
        if (!arePlots(set)) {
            return finding(BEYOND);
        }
        int why = sheets.wanting(sheet);
        if (why != 0) {
            return finding(why);
        }
        int many = Integer.bitCount(set);
        if (!within(many, 1, Matching.MOST) || sheets.size(sheet) != many) {
            return finding(WRONG_KIND);
        }
        return tracksOf(set, sheet);
    }

    private int tracksOf(int set, int sheet) {
        int tracks = 0;
        int row = 0;
        int followed = 0;
        for (int plot = 0; plot < now.plots.size(); plot++) {
            if (!isIn(set, plot)) {
                continue;
            }
            int earlier = sheets.get(sheet, row++);
            if (earlier == -1) {
                tracks++;
            } else if (!isIn(set & ~followed, earlier) || !now.mayBeFollowed(earlier, plot)) {
                return -1;
            } else {
                followed |= 1 << earlier;
            }
        }
        return tracks;
    }

    private boolean arePlots(int set) {
        return set >>> now.plots.size() == 0;
    }

    private static boolean isIn(int set, int i) {
        return within(i, 0, 31) && (set >>> i & 1) != 0;
    }

    private static boolean isTold(int cell, int many) {
        return Moves.isCell(cell) && within(many, 1, 9);
    }

    // ---- flyers

    public int flyer(int kind, int cell, int told, int many) {
        if (!within(kind, FLYER, FRIEND) || !isTold(cell, many) || !within(told, 0, 3999) || told / 100 % 10 > 7) {
            return finding(BEYOND);
        }
        int flyer = now.addFlyer(kind, cell, many);
        if (flyer < 0) {
            return finding(FULL);
        }
        now.flyers.write(flyer, World.PACE, told / 1000);
        now.flyers.write(flyer, World.WAY, told / 100 % 10);
        now.flyers.write(flyer, World.HEIGHT, told % 100);
        return flyer;
    }

    public int flight(int field, int fuel, int rounds, int many, boolean patrol) {
        if (!now.fields.has(field) || !within(fuel, 0, 99) || !within(rounds, 0, 99) || !within(many, 1, 9)) {
            return finding(BEYOND);
        }
        int flight = now.addFlyer(patrol ? PATROL : FLIGHT, now.fields.get(field, World.AT), many);
        if (flight < 0) {
            return finding(FULL);
        }
        now.flyers.write(flight, World.STANDING, DOWN);
        now.flyers.write(flight, World.FIELD, field);
        load(flight, fuel, rounds);
        return flight;
    }

    private void load(int flight, int fuel, int rounds) {
        now.flyers.write(flight, World.FUEL, fuel);
        now.flyers.write(flight, World.ROUNDS, rounds);
    }

    public int as(int flyer, int kind) {
        if (!now.flyers.has(flyer) || !within(kind, FLYER, PATROL)) {
            return finding(BEYOND);
        }
        return now.isA(flyer, kind) ? now.flyers.get(flyer, World.MANY) : finding(WRONG_KIND);
    }

    public int flyerIs(int flyer, int what) {
        if (!now.flyers.has(flyer) || !within(what, 0, 11)) {
            return finding(BEYOND);
        }
        if (what == 11) {
            return now.isHostile(flyer) ? 1 : 0;
        }
        return now.flyers.get(flyer, what);
    }

    public int answer(int flyer, boolean is) {
        if (!now.flyers.has(flyer)) {
            return finding(BEYOND);
        }
        return now.isA(flyer, FRIEND) ? changed(now.flyers, flyer, World.ANSWERED, is) : finding(WRONG_KIND);
    }

    public int send(int flight, int flyer) {
        int why = notSendable(flight, flyer);
        if (why != 0) {
            return finding(why);
        }
        if (!now.isArmed(flight)) {
            return finding(NONE);
        }
        now.flyers.write(flight, World.STANDING, UP);
        now.flyers.write(flight, World.AFTER, flyer);
        return 1;
    }

    /** The finding that send() and meeting() ask alike; 0: none. */
    private int notSendable(int flight, int flyer) {
        if (!now.flyers.has(flight) || !now.flyers.has(flyer)) {
            return BEYOND;
        }
        if (!now.isA(flight, FLIGHT) || now.isA(flyer, FLIGHT)) {
            return WRONG_KIND;
        }
        return now.stands(flight, GONE) || !now.stands(flyer, UP) ? STATE : 0;
    }

    public int back(int flight) {
        if (!now.flyers.has(flight)) {
            return finding(BEYOND);
        }
        if (!now.isA(flight, FLIGHT)) {
            return finding(WRONG_KIND);
        }
        if (!now.stands(flight, UP)) {
            return finding(STATE);
        }
        int was = now.flyers.get(flight, World.AFTER);
        now.flyers.write(flight, World.AFTER, -1);
        return was >= 0 ? 1 : 0;
    }

    public int fill(int flight, int fuel, int rounds) {
        if (!now.flyers.has(flight) || !within(fuel, 0, 99) || !within(rounds, 0, 99)) {
            return finding(BEYOND);
        }
        if (!now.isA(flight, FLIGHT)) {
            return finding(WRONG_KIND);
        }
        if (!now.stands(flight, DOWN)) {
            return finding(STATE);
        }
        load(flight, fuel, rounds);
        return 1;
    }

    // ---- rules

    public int feed(long word, int n) {
        if (!within(n, 1, 8)) {
            return finding(BEYOND);
        }
        Table tape = now.rules.tape;
        if (tape.size() + n > Rules.MOST_BYTES) {
            return finding(FULL);
        }
        for (int i = 0; i < n; i++) {
            tape.add((int) (word >>> 8 * i) & 255);
        }
        return tape.size();
    }

    public int rule(int use, int from) {
        if (!within(use, SIREN, KEPT) || !within(from, 0, LAST_MINUTE)) {
            return finding(BEYOND);
        }
        if (now.rules.made.isFull()) {
            return finding(FULL);
        }
        boolean good = text.read(use);
        now.rules.tape.clear();
        return good ? now.rules.make(use, from, text) : -10 - text.place();
    }

    public int force(int use, int minute) {
        if (!within(use, SIREN, KEPT) || !within(minute, 0, LAST_MINUTE)) {
            return finding(BEYOND);
        }
        int rule = now.rules.inForce(use, minute);
        return rule < 0 ? finding(NONE) : rule;
    }

    public int says(int rule, int a, int b, int c, int d) {
        return now.rules.made.has(rule) ? now.rules.worth(rule, a, b, c, d) : finding(BEYOND);
    }

    // ---- meetings, sending, pilots, laying

    public int meeting(int flight, int flyer) {
        int why = notSendable(flight, flyer);
        if (why != 0) {
            return finding(why);
        }
        int wait = now.minutesToMeet(flight, flyer);
        return wait < 0 ? finding(NONE) : now.minute + wait;
    }

    public int sending(int limit, int what) {
        if (!within(limit, 1, World.FARTHEST_MEETING) || !within(what, -2, 5)) {
            return finding(BEYOND);
        }
        matching.begin();
        listLeast(matching.rows, RAID, UP);
        listLeast(matching.columns, FLIGHT, DOWN);
        if (what >= matching.rows.size()) {
            return finding(NONE);
        }
        matchRaids(limit);
        matching.solve(now.howMany(FLIGHT, DOWN) - now.keptDown());
        if (what < 0) {
            return what == -1 ? matching.pairs() : matching.sum();
        }
        return matching.partner(what);
    }

    private void listLeast(Table list, int kind, int standing) {
        for (int i = 0; i < now.flyers.size() && list.size() < 6; i++) {
            if (now.isA(i, kind) && now.stands(i, standing)) {
                list.add(i);
            }
        }
    }

    private void matchRaids(int limit) {
        for (int r = 0; r < matching.rows.size(); r++) {
            for (int c = 0; c < matching.columns.size(); c++) {
                int wait = now.minutesToMeet(matching.columns.get(c, 0), matching.rows.get(r, 0));
                if (within(wait, 1, limit)) {
                    matching.allow(r, c, now.minute + wait);
                }
            }
        }
    }

    public int pilots(int sheet, int d) {
        int why = sheets.wanting(sheet);
        if (why != 0) {
            return finding(why);
        }
        if (!roster.read(sheets, sheet)) {
            return finding(WRONG_KIND);
        }
        if (!within(d, 0, sheets.size(sheet) - 1)) {
            return finding(BEYOND);
        }
        return roster.lay() ? roster.day(d) : finding(STATE);
    }

    public int laying(int masts, int cells, int k, int what) {
        if (!sheets.has(masts) || !sheets.has(cells) || !within(k, 1, 4) || !within(what, -1, 0)) {
            return finding(BEYOND);
        }
        if (sheets.wanting(masts) != 0 || sheets.wanting(cells) != 0) {
            return finding(NONE);
        }
        if (!laid.read(sheets, masts, cells)) {
            return finding(WRONG_KIND);
        }
        if (laid.masts() < k) {
            return finding(STATE);
        }
        laid.choose(k);
        return what == -1 ? laid.best() : laid.chosen();
    }

    // ---- minutes, ahead

    public int minutes(int n) {
        if (!within(n, 1, MOST_AT_ONCE) || now.minute + n > LAST_MINUTE) {
            return finding(BEYOND);
        }
        for (int i = 0; i < n; i++) {
            MinuteEnd.pass(now);
        }
        return now.minute;
    }

    public int ahead(int n, int what, int i) {
        if (!within(n, 0, MOST_AT_ONCE) || now.minute + n > LAST_MINUTE || !within(what, 0, 5)) {
            return finding(BEYOND);
        }
        if (what < 4 ? !now.flyers.has(i) : !now.towns.has(i)) {
            return finding(BEYOND);
        }
        guess.copyFrom(now);
        for (int k = 0; k < n; k++) {
            MinuteEnd.pass(guess);
        }
        switch (what) {
            case 0: return guess.flyers.get(i, World.CELL);
            case 1: return guess.flyers.get(i, World.HEIGHT);
            case 2: return guess.flyers.get(i, World.MANY);
            case 3: return guess.flyers.get(i, World.STANDING);
            case 4: return guess.towns.get(i, World.LOST);
            default: return guess.towns.get(i, World.HITS);
        }
    }

    // ---- voices, sheets, images, what is told

    public int voice(int flyer, int act, int x) {
        if (!now.flyers.has(flyer) || !within(act, Voices.GO, Voices.TELL)) {
            return finding(BEYOND);
        }
        voices.begin(now.flyers.get(flyer, World.KIND), flyer, now.flyers.get(flyer, World.MANY));
        return voices.utter(act, x);
    }

    public int trace(int i) {
        return voices.began.has(i) ? voices.began.get(i, 0) : finding(NONE);
    }

    public int sheet(int sheet, int bits, int n) {
        if (!sheets.has(sheet) || bits != 0 && bits != 8 && bits != 16 && bits != 32) {
            return finding(BEYOND);
        }
        if (bits != 0 && n < 0) {
            return finding(STATE);
        }
        if (bits != 0 && n > Sheets.MOST) {
            return finding(BEYOND);
        }
        sheets.lay(sheet, bits, bits == 0 ? 0 : n);
        return 1;
    }

    public int put(int sheet, int i, int v) {
        int why = sheets.wanting(sheet);
        if (why != 0) {
            return finding(why);
        }
        if (!within(i, 0, sheets.size(sheet) - 1)) {
            return finding(BEYOND);
        }
        sheets.write(sheet, i, v);
        return 1;
    }

    public int move(int sheet, int i, int other, int j, int n) {
        if (!sheets.has(sheet) || !sheets.has(other)) {
            return finding(BEYOND);
        }
        if (sheets.wanting(sheet) != 0 || sheets.wanting(other) != 0) {
            return finding(NONE);
        }
        if (sheets.bits(sheet) != sheets.bits(other)) {
            return finding(WRONG_KIND);
        }
        return sheets.copy(sheet, i, other, j, n) ? n : finding(BEYOND);
    }

    public int image() {
        kept.copyFrom(now);
        images++;
        return images;
    }

    public int restore() {
        if (images == 0) {
            return finding(NONE);
        }
        now.copyFrom(kept);
        return now.minute;
    }

    public int tell(int v) {
        if (now.waiting.add(v) < 0) {
            return finding(FULL);
        }
        return now.waiting.size();
    }

    public int check() {
        int first = firstUntrue();
        now.waiting.clear();
        return first + 1;
    }

    /** -1: all are as told. */
    private int firstUntrue() {
        for (int i = 0; i < now.waiting.size(); i++) {
            if (!now.flyers.has(i) || now.flyers.get(i, World.MANY) != now.waiting.get(i, 0)) {
                return i;
            }
        }
        return -1;
    }

    public int count(int what) {
        switch (what) {
            case 0: return now.masts.size();
            case 1: return now.posts.size();
            case 2: return now.plots.size();
            case 3: return now.fields.size();
            case 4: return now.towns.size();
            case 5: return now.flyers.size();
            case 6: return now.rules.made.size();
            case 7: return now.minute;
            case 8: return now.rules.tape.size();
            case 9: return voices.began.size();
            case 10: return now.waiting.size();
            case 11: return now.howMany(RAID, UP);
            case 12: return now.howMany(FLIGHT, DOWN);
            case 13: return now.towns.total(World.LOST);
            case 14: return now.towns.total(World.HITS);
            case 15: return now.cellsSeen();
            default: return finding(BEYOND);
        }
    }

    public int found(int k) {
        return within(k, BEYOND, WRONG_KIND) ? findings[k] : finding(BEYOND);
    }

    // ---- what the calls share

    private int finding(int k) {
        if (within(k, BEYOND, WRONG_KIND)) {
            findings[k]++;
        }
        return LOW - k;
    }

    private int numberOrFull(int number) {
        return number < 0 ? finding(FULL) : number;
    }

    private static int changed(Table table, int row, int column, boolean is) {
        int v = is ? 1 : 0;
        int was = table.get(row, column);
        table.write(row, column, v);
        return was == v ? 0 : 1;
    }

    private static boolean within(int v, int least, int most) {
        return v >= least && v <= most;
    }

    /** Rows of numbers, so many at most; the only place where most of the room's numbers are read or written. */
    private static final class Table {
        private final int most;
        private final int wide;
        private final int[] at;
        private int rows = 0;

        Table(int most, int wide) {
            this.most = Math.max(0, Math.min(most, 99));
            this.wide = Math.max(1, Math.min(wide, 99));
            at = new int[this.most * this.wide];
        }

        int size() {
            return rows;
        }

        boolean has(int row) {
            return row >= 0 && row < rows;
        }

        boolean isFull() {
            return rows >= most;
        }

        /** A new row that begins with v, all else 0: its number; -1: there is no room. */
        int add(int v) {
            if (rows >= most) {
                return -1;
            }
            rows++;
            write(rows - 1, 0, v);
            for (int c = 1; c < wide; c++) {
                write(rows - 1, c, 0);
            }
            return rows - 1;
        }

        void clear() {
            rows = 0;
        }

        int get(int row, int column) {
            return row >= 0 && row < rows && column >= 0 && column < wide ? at[row * wide + column] : 0;
        }

        void write(int row, int column, int v) {
            if (row >= 0 && row < rows && column >= 0 && column < wide) {
                at[row * wide + column] = v;
            }
        }

        /** The first row that begins with v; -1: none does. */
        int indexOf(int v) {
            for (int row = 0; row < rows; row++) {
                if (get(row, 0) == v) {
                    return row;
                }
            }
            return -1;
        }

        int total(int column) {
            int sum = 0;
            for (int row = 0; row < rows; row++) {
                sum += get(row, column);
            }
            return sum;
        }

        void copyFrom(Table other) {
            if (other.at.length == at.length) {
                System.arraycopy(other.at, 0, at, 0, at.length);
                rows = other.rows;
            }
        }
    }

    /** Ways and distances on the land of 16 by 16 cells. */
    private static final class Moves {
        static final int CELLS = 256;
        private static final int[] WAY_X = {1, 1, 0, -1, -1, -1, 0, 1};
        private static final int[] WAY_Y = {0, 1, 1, 1, 0, -1, -1, -1};

        static boolean isCell(int cell) {
            return cell >= 0 && cell < CELLS;
        }

        static int apart(int a, int b) {
            return Math.max(Math.abs((a & 15) - (b & 15)), Math.abs((a >> 4) - (b >> 4)));
        }

        static boolean reaches(int a, int b, int reach) {
            int x = (a & 15) - (b & 15);
            int y = (a >> 4) - (b >> 4);
            return x * x + y * y <= reach * reach;
        }

        /** The cell so far on a way; -1: it leads off the land. */
        static int flown(int cell, int way, int pace) {
            if (way < 0 || way >= WAY_X.length || way >= WAY_Y.length) {
                return -1;
            }
            int x = (cell & 15) + pace * WAY_X[way];
            int y = (cell >> 4) + pace * WAY_Y[way];
            return within(x, 0, 15) && within(y, 0, 15) ? 16 * y + x : -1;
        }

        /** Where a flight is a minute later: two steps nearer. */
        static int nearer(int cell, int to) {
            return stepped(stepped(cell, to), to);
        }

        private static int stepped(int cell, int to) {
            int x = (cell & 15) + sign((to & 15) - (cell & 15));
            int y = (cell >> 4) + sign((to >> 4) - (cell >> 4));
            return 16 * y + x;
        }

        private static int sign(int v) {
            return v > 0 ? 1 : v < 0 ? -1 : 0;
        }

        static int climbed(int height, int to) {
            return height < to ? Math.min(height + 10, to) : Math.max(height - 10, to);
        }
    }

    /** All that an image keeps. */
    private static final class World {
        static final int MOST_PLOTS = 24;
        static final int FARTHEST_MEETING = 60;
        private static final int NO_RAID = 99;

        // Masts, posts, plots, fields and towns begin with their cell; the columns of plots and towns
        // stand as plotIs() and townIs() ask for them, those of flyers as flyerIs() does.
        static final int AT = 0;
        static final int REACH = 1;
        static final int JAMMED = 2;
        static final int EAR = 1;
        static final int PLOTTED = 1;
        static final int TOLD = 2;
        static final int WAILS = 1;
        static final int LOST = 2;
        static final int HITS = 3;
        static final int KIND = 0;
        static final int CELL = 1;
        static final int HEIGHT = 2;
        static final int PACE = 3;
        static final int WAY = 4;
        static final int MANY = 5;
        static final int STANDING = 6;
        static final int FUEL = 7;
        static final int ROUNDS = 8;
        static final int AFTER = 9;
        static final int ANSWERED = 10;
        static final int FIELD = 11;

        private static final int[] ABOVE = {-1, FLYER, RAID, FLYER, FRIEND, FLIGHT};

        final Table masts = new Table(6, 3);
        final Table posts = new Table(8, 2);
        final Table plots = new Table(MOST_PLOTS, 3);
        final Table fields = new Table(5, 1);
        final Table towns = new Table(6, 4);
        final Table flyers = new Table(16, 12);
        final Table waiting = new Table(20, 1);
        final Rules rules = new Rules();
        int minute = 0;
        int weather = 0;
        int speed = 2;

        void copyFrom(World other) {
            masts.copyFrom(other.masts);
            posts.copyFrom(other.posts);
            plots.copyFrom(other.plots);
            fields.copyFrom(other.fields);
            towns.copyFrom(other.towns);
            flyers.copyFrom(other.flyers);
            waiting.copyFrom(other.waiting);
            rules.copyFrom(other.rules);
            minute = other.minute;
            weather = other.weather;
            speed = other.speed;
        }

        boolean isSeen(int cell) {
            for (int m = 0; m < masts.size(); m++) {
                if (masts.get(m, JAMMED) == 0 && Moves.reaches(cell, masts.get(m, AT), masts.get(m, REACH))) {
                    return true;
                }
            }
            return false;
        }

        boolean isHeard(int cell) {
            for (int p = 0; p < posts.size(); p++) {
                if (Moves.apart(cell, posts.get(p, AT)) <= posts.get(p, EAR) - weather) {
                    return true;
                }
            }
            return false;
        }

        boolean isWatched(int cell) {
            return isSeen(cell) || isHeard(cell);
        }

        int cellsSeen() {
            int many = 0;
            for (int cell = 0; cell < Moves.CELLS; cell++) {
                many += isSeen(cell) ? 1 : 0;
            }
            return many;
        }

        /** The plot's number; -1: there is no room. */
        int addPlot(int cell, int many) {
            int plot = plots.add(cell);
            plots.write(plot, PLOTTED, many);
            plots.write(plot, TOLD, minute);
            return plot;
        }

        boolean mayBeFollowed(int p, int q) {
            int later = plots.get(q, TOLD) - plots.get(p, TOLD);
            return later > 0 && plotsApart(p, q) <= speed * later;
        }

        int plotsApart(int p, int q) {
            return Moves.apart(plots.get(p, AT), plots.get(q, AT));
        }

        /** The flyer's number; -1: there is no room. */
        int addFlyer(int kind, int cell, int many) {
            int flyer = flyers.add(kind);
            flyers.write(flyer, CELL, cell);
            flyers.write(flyer, MANY, many);
            flyers.write(flyer, STANDING, UP);
            flyers.write(flyer, FUEL, -1);
            flyers.write(flyer, ROUNDS, -1);
            flyers.write(flyer, AFTER, -1);
            return flyer;
        }

        static int above(int kind) {
            return kind >= 0 && kind < ABOVE.length ? ABOVE[kind] : -1;
        }

        boolean isA(int flyer, int kind) {
            int own = flyers.get(flyer, KIND);
            for (int i = 0; i < ABOVE.length && own != kind; i++) {
                own = above(own);
            }
            return own == kind;
        }

        boolean stands(int flyer, int how) {
            return flyers.get(flyer, STANDING) == how;
        }

        int howMany(int kind, int standing) {
            int many = 0;
            for (int i = 0; i < flyers.size(); i++) {
                many += isA(i, kind) && stands(i, standing) ? 1 : 0;
            }
            return many;
        }

        int nearestRaid(int cell) {
            int nearest = NO_RAID;
            for (int i = 0; i < flyers.size(); i++) {
                if (isA(i, RAID) && stands(i, UP)) {
                    nearest = Math.min(nearest, Moves.apart(cell, flyers.get(i, CELL)));
                }
            }
            return nearest;
        }

        private int manyOfRaids() {
            int many = 0;
            for (int i = 0; i < flyers.size(); i++) {
                many += isA(i, RAID) && stands(i, UP) ? flyers.get(i, MANY) : 0;
            }
            return many;
        }

        boolean wails(int town) {
            int nearest = nearestRaid(towns.get(town, AT));
            int rule = rules.inForce(SIREN, minute);
            return rule < 0 ? nearest < 3 : rules.worth(rule, nearest, manyOfRaids(), weather, minute) != 0;
        }

        boolean isHostile(int flyer) {
            int rule = rules.inForce(HOSTILE, minute);
            if (rule < 0) {
                return !isA(flyer, FRIEND);
            }
            return rules.worth(rule, flyers.get(flyer, PACE), flyers.get(flyer, HEIGHT),
                    flyers.get(flyer, ANSWERED), flyers.get(flyer, MANY)) != 0;
        }

        int keptDown() {
            int rule = rules.inForce(KEPT, minute);
            if (rule < 0) {
                return 0;
            }
            int told = rules.worth(rule, howMany(FLIGHT, DOWN), howMany(FLIGHT, UP), 0, 0);
            return Math.max(0, Math.min(told, 16));
        }

        boolean isArmed(int flight) {
            return flyers.get(flight, ROUNDS) > 0 && flyers.get(flight, FUEL) > 0;
        }

        /** How many minutes from now the two would meet; -1: they would not. */
        int minutesToMeet(int flight, int flyer) {
            if (!isArmed(flight)) {
                return -1;
            }
            int last = Math.min(FARTHEST_MEETING, flyers.get(flight, FUEL));
            int cell = flyers.get(flight, CELL);
            int height = flyers.get(flight, HEIGHT);
            int aim = flyers.get(flyer, CELL);
            int aimHeight = flyers.get(flyer, HEIGHT);
            for (int i = 1; i <= last; i++) {
                aim = Moves.flown(aim, flyers.get(flyer, WAY), flyers.get(flyer, PACE));
                if (aim < 0) {
                    return -1;
                }
                height = Moves.climbed(height, aimHeight);
                cell = Moves.nearer(cell, aim);
                if (meets(cell, height, aim, aimHeight)) {
                    return i;
                }
            }
            return -1;
        }

        static boolean meets(int cell, int height, int aim, int aimHeight) {
            return height >= aimHeight && Moves.apart(cell, aim) <= 1;
        }
    }

    /** What the end of a minute does to a world. */
    private static final class MinuteEnd {
        static void pass(World w) {
            w.minute++;
            for (int i = 0; i < w.flyers.size(); i++) {
                if (w.stands(i, UP) && !w.isA(i, FLIGHT)) {
                    goOn(w, i);
                }
            }
            for (int i = 0; i < w.flyers.size(); i++) {
                if (w.stands(i, UP) && w.isA(i, FLIGHT)) {
                    flyOn(w, i);
                }
            }
            for (int t = 0; t < w.towns.size(); t++) {
                sound(w, t);
            }
        }

        private static void goOn(World w, int flyer) {
            Table f = w.flyers;
            int cell = Moves.flown(f.get(flyer, World.CELL), f.get(flyer, World.WAY), f.get(flyer, World.PACE));
            if (cell < 0) {
                f.write(flyer, World.STANDING, GONE);
            } else {
                f.write(flyer, World.CELL, cell);
            }
        }

        private static void flyOn(World w, int flight) {
            Table f = w.flyers;
            int fuel = f.get(flight, World.FUEL) - 1;
            f.write(flight, World.FUEL, Math.max(fuel, 0));
            if (fuel < 0) {
                f.write(flight, World.STANDING, GONE);
                f.write(flight, World.AFTER, -1);
                return;
            }
            if (!w.stands(f.get(flight, World.AFTER), UP)) {
                f.write(flight, World.AFTER, -1);
            }
            int after = f.get(flight, World.AFTER);
            int aim = after < 0 ? fieldOf(w, flight) : f.get(after, World.CELL);
            int aimHeight = after < 0 ? 0 : f.get(after, World.HEIGHT);
            f.write(flight, World.HEIGHT, Moves.climbed(f.get(flight, World.HEIGHT), aimHeight));
            f.write(flight, World.CELL, Moves.nearer(f.get(flight, World.CELL), aim));
            if (after >= 0) {
                meet(w, flight, after);
            }
            // One that a meeting left without rounds may stand on its own field already.
            if (f.get(flight, World.AFTER) < 0) {
                land(w, flight);
            }
        }

        private static int fieldOf(World w, int flight) {
            return w.fields.get(w.flyers.get(flight, World.FIELD), World.AT);
        }

        private static void meet(World w, int flight, int flyer) {
            Table f = w.flyers;
            if (!World.meets(f.get(flight, World.CELL), f.get(flight, World.HEIGHT),
                    f.get(flyer, World.CELL), f.get(flyer, World.HEIGHT))) {
                return;
            }
            int rounds = f.get(flight, World.ROUNDS);
            int many = f.get(flyer, World.MANY);
            int taken = Math.min(rounds, many);
            f.write(flight, World.ROUNDS, rounds - taken);
            f.write(flyer, World.MANY, many - taken);
            if (many == taken) {
                f.write(flyer, World.STANDING, GONE);
            }
            if (rounds == taken) {
                f.write(flight, World.AFTER, -1);
            }
        }

        private static void land(World w, int flight) {
            if (w.flyers.get(flight, World.CELL) == fieldOf(w, flight)) {
                w.flyers.write(flight, World.STANDING, DOWN);
                w.flyers.write(flight, World.HEIGHT, 0);
            }
        }

        private static void sound(World w, int town) {
            boolean on = w.wails(town);
            int column = on ? World.LOST : World.HITS;
            int more = on ? 1 : hits(w, w.towns.get(town, World.AT));
            w.towns.write(town, World.WAILS, on ? 1 : 0);
            w.towns.write(town, column, w.towns.get(town, column) + more);
        }

        private static int hits(World w, int cell) {
            int hits = 0;
            for (int i = 0; i < w.flyers.size(); i++) {
                if (w.isA(i, RAID) && w.stands(i, UP) && w.flyers.get(i, World.CELL) == cell) {
                    hits += w.isA(i, SPOOF) ? 1 : w.flyers.get(i, World.MANY);
                }
            }
            return hits;
        }
    }

    /** The tape, and the rules that were made of it: operands ahead of their operator. */
    private static final class Rules {
        static final int MOST_BYTES = 50;
        static final int NAME = 1000;
        static final int OPERATOR = 2000;
        private static final int USE = 0;
        private static final int FROM = 1;
        private static final int LENGTH = 2;
        private static final int CODE = 3;

        final Table made = new Table(12, CODE + MOST_BYTES);
        final Table tape = new Table(MOST_BYTES, 1);
        private final int[] names = new int[4];
        private final int[] stack = new int[MOST_BYTES];

        void copyFrom(Rules other) {
            made.copyFrom(other.made);
            tape.copyFrom(other.tape);
        }

        int make(int use, int from, Text text) {
            int rule = made.add(use);
            made.write(rule, FROM, from);
            made.write(rule, LENGTH, text.size());
            for (int i = 0; i < text.size(); i++) {
                made.write(rule, CODE + i, text.code(i));
            }
            return rule;
        }

        /** The rule's number; -1: none is in force. */
        int inForce(int use, int minute) {
            for (int rule = made.size() - 1; rule >= 0; rule--) {
                if (made.get(rule, USE) == use && made.get(rule, FROM) <= minute) {
                    return rule;
                }
            }
            return -1;
        }

        int worth(int rule, int a, int b, int c, int d) {
            names[0] = a;
            names[1] = b;
            names[2] = c;
            names[3] = d;
            int top = 0;
            int length = Math.min(made.get(rule, LENGTH), MOST_BYTES);
            for (int i = 0; i < length; i++) {
                top = apply(made.get(rule, CODE + i), top);
            }
            return peek(top - 1);
        }

        /** How many numbers stand on the stack then. */
        private int apply(int code, int top) {
            if (code < NAME) {
                return push(top, code);
            }
            if (code < OPERATOR) {
                int name = code - NAME;
                return push(top, name < names.length ? names[name] : 0);
            }
            if (code == OPERATOR + '!') {
                return push(top - 1, peek(top - 1) == 0 ? 1 : 0);
            }
            return push(top - 2, joined(code - OPERATOR, peek(top - 2), peek(top - 1)));
        }

        private int push(int top, int v) {
            if (top < 0 || top >= stack.length) {
                return top;
            }
            stack[top] = v;
            return top + 1;
        }

        private int peek(int at) {
            return at >= 0 && at < stack.length ? stack[at] : 0;
        }

        private static int joined(int sign, int a, int b) {
            switch (sign) {
                case '|': return a != 0 || b != 0 ? 1 : 0;
                case '&': return a != 0 && b != 0 ? 1 : 0;
                case '<': return a < b ? 1 : 0;
                case '=': return a == b ? 1 : 0;
                case '>': return a > b ? 1 : 0;
                case '+': return a + b;
                case '-': return a - b;
                default: return a * b;
            }
        }
    }

    /** Reads the tape as a text of a use. */
    private static final class Text {
        private static final int MOST_OPEN = 5;
        private static final int LIKENED = 2;
        private static final int PARTS = 5;

        private final Table tape;
        private final int[] code = new int[Rules.MOST_BYTES];
        private int length = 0;
        private int use = 0;
        private int place = 0;

        Text(Table tape) {
            this.tape = tape;
        }

        /** Whether all of the tape is a text; if not, place() is its fault. */
        boolean read(int use) {
            this.use = use;
            length = 0;
            place = 0;
            return level(0, 0) && place == tape.size();
        }

        int place() {
            return place;
        }

        int size() {
            return length;
        }

        int code(int i) {
            return i >= 0 && i < code.length ? code[i] : 0;
        }

        /** Parts joined by the signs of a level, the loosest being 0; so many of ! and ( are open. */
        private boolean level(int level, int open) {
            if (level >= PARTS) {
                return part(open);
            }
            if (!level(level + 1, open)) {
                return false;
            }
            int most = level == LIKENED ? 1 : Rules.MOST_BYTES;
            for (int i = 0; i < most && joins(next(), level); i++) {
                int sign = next();
                place++;
                if (!level(level + 1, open)) {
                    return false;
                }
                emit(Rules.OPERATOR + sign);
            }
            return true;
        }

        private static boolean joins(int sign, int level) {
            switch (level) {
                case 0: return sign == '|';
                case 1: return sign == '&';
                case LIKENED: return sign == '<' || sign == '=' || sign == '>';
                case 3: return sign == '+' || sign == '-';
                default: return sign == '*';
            }
        }

        private boolean part(int open) {
            int first = next();
            if (isDigit(first)) {
                return number();
            }
            int name = nameOf(first);
            if (name >= 0) {
                place++;
                emit(Rules.NAME + name);
                return true;
            }
            if (first != '!' && first != '(' || open >= MOST_OPEN) {
                return false;
            }
            place++;
            return first == '!' ? turned(open + 1) : bracketed(open + 1);
        }

        private boolean turned(int open) {
            if (!part(open)) {
                return false;
            }
            emit(Rules.OPERATOR + '!');
            return true;
        }

        private boolean bracketed(int open) {
            if (!level(0, open) || next() != ')') {
                return false;
            }
            place++;
            return true;
        }

        private boolean number() {
            int v = 0;
            for (int i = 0; i < 3 && isDigit(next()); i++) {
                v = 10 * v + next() - '0';
                place++;
            }
            emit(v);
            return true;
        }

        /** The byte that comes next; -1: none does. */
        private int next() {
            return tape.has(place) ? tape.get(place, 0) : -1;
        }

        private static boolean isDigit(int sign) {
            return within(sign, '0', '9');
        }

        /** Which of the use's names it is; -1: none. */
        private int nameOf(int sign) {
            if (sign < 0) {
                return -1;
            }
            String names = use == SIREN ? "fmwt" : use == HOSTILE ? "shan" : "du";
            return names.indexOf((char) sign);
        }

        private void emit(int what) {
            if (length >= 0 && length < code.length) {
                code[length] = what;
                length++;
            }
        }
    }

    /** Pairs of rows and columns: the most, of these the least sum, of these the first by rows. */
    private static final class Matching {
        static final int MOST = 9;
        private static final int SETS = 1 << MOST;
        // Above any sum of costs, so that a row left alone outweighs them all.
        private static final int ALONE = 100000;
        private static final int NEVER = 100 * ALONE;

        /** What each row and column stands for. */
        final Table rows = new Table(MOST, 1);
        final Table columns = new Table(MOST, 1);
        private final Table costs = new Table(MOST, MOST);
        private final Table taken = new Table(MOST, 1);
        // The columns, as bits, that the rows ahead of one could have taken.
        private final Table takeable = new Table(MOST + 1, 1);
        private final int[] least = new int[(MOST + 1) * SETS];
        private int limit = 0;
        private int sum = 0;
        private int pairs = 0;

        void begin() {
            rows.clear();
            columns.clear();
            costs.clear();
            for (int r = 0; r < MOST; r++) {
                costs.add(-1);
                for (int c = 0; c < MOST; c++) {
                    costs.write(r, c, -1);
                }
            }
        }

        void allow(int row, int column, int cost) {
            costs.write(row, column, cost);
        }

        /** So many pairs at most. */
        void solve(int limit) {
            this.limit = limit;
            lookAhead();
            for (int row = rows.size(); row >= 0; row--) {
                int most = takeable.get(row, 0);
                for (int set = 0; set <= most; set++) {
                    if ((set & ~most) == 0) {
                        keep(row, set, row == rows.size() ? 0 : leastFrom(row, set));
                    }
                }
            }
            take();
        }

        private void lookAhead() {
            takeable.clear();
            int set = 0;
            for (int row = 0; row <= rows.size(); row++) {
                takeable.add(set);
                for (int c = 0; c < columns.size(); c++) {
                    set |= costs.get(row, c) >= 0 ? 1 << c : 0;
                }
            }
        }

        private void take() {
            int set = 0;
            sum = 0;
            pairs = 0;
            taken.clear();
            for (int row = 0; row < rows.size(); row++) {
                int column = firstBest(row, set);
                taken.add(column);
                if (column >= 0) {
                    set |= 1 << column;
                    sum += costs.get(row, column);
                    pairs++;
                }
            }
        }

        private int leastFrom(int row, int set) {
            int best = ALONE + kept(row + 1, set);
            for (int c = 0; c < columns.size(); c++) {
                best = Math.min(best, with(row, set, c));
            }
            return best;
        }

        private int with(int row, int set, int column) {
            int cost = costs.get(row, column);
            if (cost < 0 || (set >> column & 1) != 0 || Integer.bitCount(set) >= limit) {
                return NEVER;
            }
            return cost + kept(row + 1, set | 1 << column);
        }

        private int firstBest(int row, int set) {
            int best = leastFrom(row, set);
            for (int c = 0; c < columns.size(); c++) {
                if (with(row, set, c) == best) {
                    return c;
                }
            }
            return -1;
        }

        private void keep(int row, int set, int v) {
            int i = row * SETS + set;
            if (i >= 0 && i < least.length) {
                least[i] = v;
            }
        }

        private int kept(int row, int set) {
            int i = row * SETS + set;
            return i >= 0 && i < least.length ? least[i] : NEVER;
        }

        int pairs() {
            return pairs;
        }

        int sum() {
            return sum;
        }

        /** What the row's column stands for; -1: it has none. */
        int partner(int row) {
            int column = taken.has(row) ? taken.get(row, 0) : -1;
            return columns.has(column) ? columns.get(column, 0) : -1;
        }
    }

    /** Who is on duty on which day. */
    private static final class Roster {
        private static final int PILOTS = 6;
        private static final int MOST_DAYS = 10;

        private final Table needs = new Table(MOST_DAYS, 1);
        private final Table days = new Table(MOST_DAYS, 1);
        // Whether the days from one on can be filled if so many of the day before may not come:
        // which pilots these are makes no odds to that.
        private final Table can = new Table(MOST_DAYS + 1, PILOTS + 1);

        boolean read(Sheets sheets, int sheet) {
            needs.clear();
            if (!within(sheets.size(sheet), 1, MOST_DAYS)) {
                return false;
            }
            for (int i = 0; i < sheets.size(sheet); i++) {
                int need = sheets.get(sheet, i);
                if (!within(need, 0, PILOTS)) {
                    return false;
                }
                needs.add(need);
            }
            return true;
        }

        /** Whether there is a way; day() tells the first one. */
        boolean lay() {
            foresee();
            days.clear();
            for (int d = 0; d < needs.size(); d++) {
                int set = firstSet(d);
                if (set < 0) {
                    return false;
                }
                days.add(set);
            }
            return true;
        }

        int day(int d) {
            return days.get(d, 0);
        }

        private void foresee() {
            can.clear();
            for (int d = 0; d <= needs.size(); d++) {
                can.add(0);
            }
            for (int d = needs.size(); d >= 0; d--) {
                for (int barred = 0; barred <= PILOTS; barred++) {
                    can.write(d, barred, d == needs.size() || canFill(d, barred) ? 1 : 0);
                }
            }
        }

        private boolean canFill(int d, int barred) {
            int before = needs.get(d - 1, 0);
            int need = needs.get(d, 0);
            for (int again = 0; again <= need; again++) {
                if (again <= before - barred && need - again <= PILOTS - before && can.get(d + 1, again) != 0) {
                    return true;
                }
            }
            return false;
        }

        /** -1: there is none. */
        private int firstSet(int d) {
            int before = days.get(d - 1, 0);
            int barred = before & days.get(d - 2, 0);
            for (int set = 0; set < 1 << PILOTS; set++) {
                if (Integer.bitCount(set) == needs.get(d, 0) && (set & barred) == 0
                        && can.get(d + 1, Integer.bitCount(set & before)) != 0) {
                    return set;
                }
            }
            return -1;
        }
    }

    /** Which of the told masts to lay. */
    private static final class Laying {
        private static final int MOST = 8;

        /** The rows of cells that each mast sees, as bits. */
        private final Table sees = new Table(MOST, 1);
        private int best = 0;
        private int chosen = 0;

        boolean read(Sheets sheets, int masts, int cells) {
            sees.clear();
            int many = sheets.size(masts);
            if (many == 0 || many % 3 != 0 || many > 3 * MOST) {
                return false;
            }
            for (int i = 0; i < sheets.size(cells); i++) {
                if (!Moves.isCell(sheets.get(cells, i))) {
                    return false;
                }
            }
            for (int i = 0; i < many; i += 3) {
                int x = sheets.get(masts, i);
                int y = sheets.get(masts, i + 1);
                int reach = sheets.get(masts, i + 2);
                if (!within(x, 0, 15) || !within(y, 0, 15) || !within(reach, 1, 15)) {
                    return false;
                }
                sees.add(seen(sheets, cells, 16 * y + x, reach));
            }
            return true;
        }

        private static int seen(Sheets sheets, int cells, int mast, int reach) {
            int bits = 0;
            for (int i = 0; i < sheets.size(cells); i++) {
                if (Moves.reaches(mast, sheets.get(cells, i), reach)) {
                    bits |= 1 << i;
                }
            }
            return bits;
        }

        int masts() {
            return sees.size();
        }

        void choose(int k) {
            best = -1;
            chosen = 0;
            for (int set = 0; set < 1 << sees.size(); set++) {
                if (Integer.bitCount(set) == k && worst(set) > best) {
                    best = worst(set);
                    chosen = set;
                }
            }
        }

        private int worst(int set) {
            int least = Sheets.MOST;
            for (int failing = 0; failing < sees.size(); failing++) {
                if ((set >> failing & 1) != 0) {
                    least = Math.min(least, Integer.bitCount(together(set & ~(1 << failing))));
                }
            }
            return least;
        }

        private int together(int set) {
            int bits = 0;
            for (int mast = 0; mast < sees.size(); mast++) {
                bits |= (set >> mast & 1) != 0 ? sees.get(mast, 0) : 0;
            }
            return bits;
        }

        int best() {
            return best;
        }

        int chosen() {
            return chosen;
        }
    }

    /** What flyers say, each by the bodies of its kind or of those above. */
    private static final class Voices {
        static final int GO = 0;
        static final int JOIN = 1;
        static final int BURN = 2;
        static final int TELL = 3;
        private static final int ACTS = 4;
        private static final int DEEPEST = 40;
        // By kinds, in each by acts; 0: that kind has no body for it.
        private static final int[] BODIES = {
            10, 11, 12, 13,
            0, 20, 0, 21,
            30, 0, 31, 0,
            0, 0, 40, 0,
            50, 0, 0, 51,
            0, 60, 61, 0};

        final Table began = new Table(40, 1);
        private int kind = FLYER;
        private int number = 0;
        private int many = 0;

        void begin(int kind, int number, int many) {
            began.clear();
            this.kind = kind;
            this.number = number;
            this.many = many;
        }

        int utter(int act, int x) {
            return own(act, x, 0);
        }

        private int own(int act, int x, int depth) {
            return from(kind, act, x, depth + 1);
        }

        private int from(int first, int act, int x, int depth) {
            int body = bodyFrom(first, act);
            if (depth > DEEPEST || body == 0) {
                return 0;
            }
            began.add(body);
            return body < 40 ? enemyBody(body, x, depth) : friendBody(body, x, depth);
        }

        private static int bodyFrom(int first, int act) {
            int kind = first;
            for (int i = 0; i < BODIES.length && kind >= 0; i++) {
                int at = ACTS * kind + act;
                if (at >= 0 && at < BODIES.length && BODIES[at] != 0) {
                    return BODIES[at];
                }
                kind = World.above(kind);
            }
            return 0;
        }

        private int enemyBody(int body, int x, int depth) {
            switch (body) {
                case 10: return x + number;
                case 11: return own(GO, x, depth) * 2;
                case 12: return own(JOIN, x, depth) - many;
                case 13: return own(BURN, x, depth) + own(GO, 1, depth);
                case 20: return from(FLYER, JOIN, x, depth + 1) + many;
                case 21: return 0 - from(FLYER, TELL, x, depth + 1);
                case 30: return from(RAID, GO, x, depth + 1) * many;
                default: return from(RAID, BURN, x + 1, depth + 1);
            }
        }

        private int friendBody(int body, int x, int depth) {
            switch (body) {
                case 40: return own(GO, x, depth) ^ from(FLYER, BURN, x, depth + 1);
                case 50: return from(FRIEND, GO, x - 1, depth + 1);
                case 51: return from(FRIEND, TELL, x, depth + 1) + own(BURN, number, depth);
                case 60: return from(FLIGHT, JOIN, x, depth + 1) - from(FLIGHT, GO, x, depth + 1);
                default: return from(FLIGHT, BURN, x, depth + 1) * 3;
            }
        }
    }

    /** The sheets; one of 0 bits is missing. */
    private static final class Sheets {
        static final int MOST = 24;
        private static final int BITS = 0;
        private static final int SIZE = 1;
        private static final int FIRST = 2;

        private final Table rows = new Table(4, FIRST + MOST);

        Sheets() {
            for (int i = 0; i < 4; i++) {
                rows.add(0);
            }
        }

        boolean has(int sheet) {
            return rows.has(sheet);
        }

        int bits(int sheet) {
            return rows.get(sheet, BITS);
        }

        int size(int sheet) {
            return rows.get(sheet, SIZE);
        }

        /** The finding of a sheet that is needed; 0: it is there. */
        int wanting(int sheet) {
            if (!has(sheet)) {
                return BEYOND;
            }
            return bits(sheet) == 0 ? NONE : 0;
        }

        void lay(int sheet, int bits, int n) {
            rows.write(sheet, BITS, bits);
            rows.write(sheet, SIZE, n);
            for (int i = 0; i < MOST; i++) {
                rows.write(sheet, FIRST + i, 0);
            }
        }

        int get(int sheet, int i) {
            return within(i, 0, size(sheet) - 1) ? rows.get(sheet, FIRST + i) : 0;
        }

        void write(int sheet, int i, int v) {
            if (within(i, 0, size(sheet) - 1)) {
                int bits = bits(sheet);
                rows.write(sheet, FIRST + i, bits == 8 ? (byte) v : bits == 16 ? (short) v : v);
            }
        }

        /** Whether the numbers stand there; if so they are copied, as they all were. */
        boolean copy(int sheet, int i, int other, int j, int n) {
            if (n < 0 || i < 0 || j < 0 || i > size(sheet) - n || j > size(other) - n) {
                return false;
            }
            // From the far end if they move up in one sheet, so that none is lost.
            boolean up = j > i;
            for (int k = 0; k < n; k++) {
                int at = up ? n - 1 - k : k;
                write(other, j + at, get(sheet, i + at));
            }
            return true;
        }
    }
}
