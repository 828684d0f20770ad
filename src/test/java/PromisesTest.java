import java.util.function.IntSupplier;

/** Each promise by its number: ordinary inputs, the edges, and the findings in their order. */
public final class PromisesTest {
    private static final int BEYOND = -1000001;
    private static final int NONE = -1000002;
    private static final int STATE = -1000003;
    private static final int FULL = -1000004;
    private static final int KIND = -1000005;
    private static final int MIN = Integer.MIN_VALUE;
    private static final int MAX = Integer.MAX_VALUE;

    private static final Due due = new Due("PromisesTest");
    private static int promise = 0;
    private static int row = 0;
    private static RaidRoom x;

    private static void promise(int number) {
        promise = number;
        row = 0;
        x = new RaidRoom();
    }

    /** Answers that are due, one by one. */
    private static void is(int want, int... got) {
        for (int g : got) {
            row++;
            due.is("promise " + promise + ", answer " + row, g, want);
        }
    }

    private static void fillSheet(int sheet, int bits, int... numbers) {
        x.sheet(sheet, bits, numbers.length);
        for (int i = 0; i < numbers.length; i++) {
            x.put(sheet, i, numbers[i]);
        }
    }

    private static int rule(String text, int use, int from) {
        for (int i = 0; i < text.length(); i++) {
            x.feed(text.charAt(i), 1);
        }
        return x.rule(use, from);
    }

    private static int cell(int cx, int cy) {
        return 16 * cy + cx;
    }

    public static void main(String[] args) {
        made();
        land();
        watching();
        towns();
        plots();
        plotSheets();
        trackings();
        judging();
        flyers();
        flights();
        kinds();
        sending();
        filling();
        minuteEnds();
        meetingEnds();
        sirens();
        tape();
        faults();
        worth();
        force();
        hostile();
        meetings();
        plans();
        keptDown();
        pilots();
        laying();
        minutes();
        ahead();
        voices();
        sheets();
        moves();
        images();
        told();
        counts();
        found();
        due.end();
    }

    private static void made() {
        promise(1);
        for (int i = 0; i <= 14; i++) {
            is(0, x.count(i));
        }
        is(0, x.count(15), x.watched(0), x.watched(255), x.check());
        is(0, x.set(0, 0));
        is(2, x.set(1, 2));
        for (int i = 1; i <= 5; i++) {
            is(0, x.found(i));
        }
        is(NONE, x.restore(), x.trace(0), x.put(0, 0, 0), x.force(0, 1000));
    }

    private static void land() {
        promise(2);
        is(0, x.mast(0, 1));
        is(1, x.mast(255, 15));
        is(BEYOND, x.mast(-1, 5), x.mast(256, 5), x.mast(MIN, 5), x.mast(MAX, 5));
        is(BEYOND, x.mast(5, 0), x.mast(5, 16), x.mast(5, -3), x.mast(5, MAX));
        is(2, x.mast(7, 7));
        is(3, x.mast(7, 7));
        is(4, x.mast(7, 7));
        is(5, x.mast(7, 7));
        is(FULL, x.mast(7, 7), x.mast(8, 1));
        is(BEYOND, x.mast(256, 7), x.mast(7, 16));
        is(6, x.count(0));
        promise(3);
        is(BEYOND, x.jam(0, true), x.jam(-1, true));
        x.mast(5, 3);
        x.mast(200, 3);
        is(0, x.jam(0, false));
        is(1, x.jam(0, true));
        is(0, x.jam(0, true));
        is(0, x.watched(5));
        is(1, x.watched(200));
        is(1, x.jam(0, false));
        is(1, x.watched(5));
        is(BEYOND, x.jam(2, true), x.jam(-1, false), x.jam(MAX, true), x.jam(MIN, true));
        promise(4);
        is(0, x.post(0, 0));
        is(1, x.post(255, 15));
        is(BEYOND, x.post(-1, 5), x.post(256, 5), x.post(5, -1), x.post(5, 16), x.post(MIN, 5), x.post(5, MAX));
        for (int i = 2; i < 8; i++) {
            is(i, x.post(i, i));
        }
        is(FULL, x.post(5, 5));
        is(BEYOND, x.post(256, 5), x.post(5, 16));
        is(8, x.count(1));
        promise(5);
        is(0, x.set(0, 9));
        is(9, x.set(0, 0));
        is(0, x.set(0, 4));
        is(2, x.set(1, 9));
        is(9, x.set(1, 1));
        is(1, x.set(1, 5));
        is(BEYOND, x.set(0, -1), x.set(0, 10), x.set(1, 0), x.set(1, 10), x.set(2, 5), x.set(-1, 5), x.set(MIN, 5));
        is(4, x.set(0, 4));
        is(5, x.set(1, 5));
    }

    private static void watching() {
        promise(6);
        x.mast(cell(5, 5), 5);
        is(1, x.watched(cell(8, 9)), x.watched(cell(9, 8)), x.watched(cell(10, 5)), x.watched(cell(5, 0)));
        is(0, x.watched(cell(9, 9)), x.watched(cell(11, 5)), x.watched(cell(10, 6)), x.watched(cell(0, 0)));
        x.post(cell(12, 5), 3);
        is(3, x.watched(cell(9, 5)), x.watched(cell(10, 5)));
        is(2, x.watched(cell(15, 8)), x.watched(cell(15, 2)), x.watched(cell(11, 5)));
        is(0, x.watched(cell(15, 9)), x.watched(cell(12, 9)));
        x.set(0, 3);
        is(2, x.watched(cell(12, 5)));
        is(0, x.watched(cell(13, 5)), x.watched(cell(11, 5)));
        x.set(0, 4);
        is(0, x.watched(cell(12, 5)));
        x.set(0, 9);
        is(0, x.watched(cell(12, 5)), x.watched(cell(15, 15)));
        is(BEYOND, x.watched(-1), x.watched(256), x.watched(MIN), x.watched(MAX));
        x.jam(0, true);
        is(0, x.watched(cell(5, 5)));
        x.mast(cell(5, 6), 1);
        is(1, x.watched(cell(5, 5)));
        is(0, x.watched(cell(4, 5)));
    }

    private static void towns() {
        promise(7);
        is(BEYOND, x.field(-1), x.field(256), x.field(MAX));
        for (int i = 0; i < 5; i++) {
            is(i, x.field(i == 4 ? 255 : 0));
        }
        is(FULL, x.field(5));
        is(BEYOND, x.field(256));
        promise(8);
        is(BEYOND, x.town(-1), x.town(256), x.town(MIN));
        for (int i = 0; i < 6; i++) {
            is(i, x.town(i == 5 ? 255 : 0));
        }
        is(FULL, x.town(5));
        is(BEYOND, x.town(-1));
        promise(9);
        x.town(cell(8, 8));
        is(cell(8, 8), x.townIs(0, 0));
        is(0, x.townIs(0, 1), x.townIs(0, 2), x.townIs(0, 3));
        is(99, x.townIs(0, 4));
        x.flyer(0, cell(8, 8), 0, 1);
        x.flyer(3, cell(8, 8), 0, 1);
        is(99, x.townIs(0, 4));
        x.flyer(1, cell(3, 14), 0, 1);
        is(6, x.townIs(0, 4));
        x.flyer(2, cell(12, 8), 2000, 1);
        is(4, x.townIs(0, 4));
        is(0, x.townIs(0, 1));
        x.minutes(2);
        is(6, x.townIs(0, 4));
        is(BEYOND, x.townIs(1, 0), x.townIs(-1, 0), x.townIs(0, -1), x.townIs(0, 5), x.townIs(MAX, 0), x.townIs(0, MIN));
    }

    private static void plots() {
        promise(10);
        is(BEYOND, x.plot(-1, 1), x.plot(256, 1), x.plot(5, 0), x.plot(5, 10), x.plot(MIN, 1), x.plot(5, MAX));
        is(STATE, x.plot(5, 1));
        x.mast(5, 2);
        x.post(255, 1);
        is(0, x.plot(5, 1));
        is(1, x.plot(255, 9));
        is(STATE, x.plot(8, 1), x.plot(253, 1));
        is(BEYOND, x.plot(8, 10));
        for (int i = 2; i < 24; i++) {
            is(i, x.plot(5, 2));
        }
        is(FULL, x.plot(5, 2));
        is(STATE, x.plot(100, 2));
        is(BEYOND, x.plot(5, 0));
        promise(12);
        x.mast(5, 15);
        is(BEYOND, x.plotIs(0, 0));
        x.minutes(7);
        x.plot(4, 3);
        x.minutes(2);
        x.plot(6, 8);
        is(4, x.plotIs(0, 0));
        is(3, x.plotIs(0, 1));
        is(7, x.plotIs(0, 2));
        is(6, x.plotIs(1, 0));
        is(8, x.plotIs(1, 1));
        is(9, x.plotIs(1, 2));
        is(BEYOND, x.plotIs(2, 0), x.plotIs(-1, 0), x.plotIs(0, -1), x.plotIs(0, 3), x.plotIs(MAX, 0));
        promise(13);
        x.mast(cell(8, 8), 15);
        x.plot(cell(8, 8), 1);
        x.plot(cell(8, 8), 1);
        x.minutes(3);
        x.plot(cell(14, 2), 1);
        x.plot(cell(15, 8), 1);
        is(0, x.follows(0, 1), x.follows(1, 0), x.follows(0, 0));
        is(1, x.follows(0, 2), x.follows(1, 2));
        is(0, x.follows(0, 3), x.follows(2, 0), x.follows(2, 3));
        x.set(1, 3);
        is(1, x.follows(0, 3));
        x.set(1, 1);
        is(0, x.follows(0, 2));
        is(BEYOND, x.follows(4, 0), x.follows(0, 4), x.follows(-1, 0), x.follows(0, -1), x.follows(MAX, 0));
    }

    private static void plotSheets() {
        promise(11);
        x.mast(cell(4, 4), 3);
        is(BEYOND, x.plots(-1), x.plots(4), x.plots(MAX));
        is(NONE, x.plots(0), x.plots(3));
        x.sheet(0, 16, 0);
        is(0, x.plots(0));
        x.sheet(0, 16, 3);
        is(KIND, x.plots(0));
        x.minutes(4);
        fillSheet(0, 16, cell(4, 4), 3, -1, 77, cell(15, 15), 9, cell(4, 7), 1);
        is(2, x.plots(0), x.count(2));
        is(cell(4, 4), x.plotIs(0, 0));
        is(3, x.plotIs(0, 1));
        is(4, x.plotIs(0, 2));
        is(cell(4, 7), x.plotIs(1, 0));
        is(1, x.plotIs(1, 1));
        fillSheet(1, 16, cell(4, 4), 3, -2, 3);
        is(BEYOND, x.plots(1));
        fillSheet(1, 16, cell(4, 4), 3, 256, 3);
        is(BEYOND, x.plots(1));
        fillSheet(1, 16, cell(4, 4), 3, cell(4, 4), 0);
        is(BEYOND, x.plots(1));
        fillSheet(1, 16, cell(4, 4), 3, cell(15, 15), 10);
        is(BEYOND, x.plots(1));
        is(2, x.count(2));
        fillSheet(2, 8, cell(4, 4), 3, cell(4, 4), 4, cell(4, 4), 5, cell(4, 4), 6, cell(4, 4), 7);
        is(5, x.plots(2), x.plots(2), x.plots(2), x.plots(2));
        is(FULL, x.plots(2));
        is(22, x.count(2));
        x.put(2, 0, 300);
        x.put(2, 1, 99);
        is(BEYOND, x.plots(2));
        fillSheet(2, 8, cell(4, 4), 3, cell(15, 0), 4, cell(4, 4), 5, -1, 0);
        is(2, x.plots(2));
        is(24, x.count(2));
        is(3, x.plotIs(22, 1));
        is(5, x.plotIs(23, 1));
        fillSheet(2, 8, cell(15, 0), 3, -1, 0);
        is(0, x.plots(2));
        fillSheet(2, 8, cell(4, 4), 1);
        is(FULL, x.plots(2));
    }

    private static void trackings() {
        promise(14);
        x.mast(cell(8, 8), 12);
        is(KIND, x.tracking(0, -1));
        is(BEYOND, x.tracking(1, -1));
        x.plot(cell(6, 8), 1);
        x.plot(cell(8, 8), 1);
        x.plot(cell(10, 8), 1);
        x.minutes(1);
        x.plot(cell(8, 8), 1);
        x.plot(cell(8, 8), 1);
        // 3 and 4 may follow any of 0, 1, 2: one of them 1 at no way, the other one 0 ahead of 2.
        is(3, x.tracking(31, -1));
        is(2, x.tracking(31, -2));
        is(0, x.tracking(31, 3));
        is(1, x.tracking(31, 4));
        is(-1, x.tracking(31, 0), x.tracking(31, 1), x.tracking(31, 2));
        is(2, x.tracking(28, 3));
        is(-1, x.tracking(28, 4));
        is(2, x.tracking(28, -1), x.tracking(28, -2));
        is(1, x.tracking(1, -1));
        is(0, x.tracking(1, -2), x.tracking(7, -2));
        is(3, x.tracking(7, -1));
        is(NONE, x.tracking(28, 0), x.tracking(28, 1), x.tracking(28, 5), x.tracking(28, 32), x.tracking(28, 34), x.tracking(28, MAX));
        is(BEYOND, x.tracking(32, -1), x.tracking(33, -1), x.tracking(-1, -1), x.tracking(MIN, 0), x.tracking(31, -3),
            x.tracking(31, MIN), x.tracking(0, -3));
        is(KIND, x.tracking(0, 0), x.tracking(0, 40));
        // The fewest tracks even if the sum is greater, and chains.
        x.minutes(1);
        x.plot(cell(7, 8), 1);
        is(3, x.tracking(63, -1));
        is(3, x.tracking(63, -2));
        is(3, x.tracking(63, 5));
        is(0, x.tracking(63, 3));
        is(0, x.tracking(33, 5));
        x.minutes(1);
        for (int i = 0; i < 5; i++) {
            x.plot(cell(8, 8), 1);
        }
        is(KIND, x.tracking(1023, -1), x.tracking(2047, 0), x.tracking(2047, 23));
        is(3, x.tracking(511, -1));
        is(4, x.tracking(511, -2));
        int[] nine = {-1, -1, -1, 1, 2, 0, 3, 4, 5};
        for (int p = 0; p < 9; p++) {
            is(nine[p], x.tracking(511, p));
        }
        promise(14);
        x.mast(cell(8, 8), 12);
        x.plot(cell(8, 8), 1);
        x.plot(cell(3, 8), 1);
        x.minutes(1);
        x.plot(cell(6, 8), 1);
        x.plot(cell(5, 8), 1);
        x.set(1, 3);
        // 2 to 0 and 3 to 1 cost 2 + 2; 2 to 1 and 3 to 0 cost 3 + 3.
        is(2, x.tracking(15, -1));
        is(4, x.tracking(15, -2));
        is(0, x.tracking(15, 2));
        is(1, x.tracking(15, 3));
        x.set(1, 2);
        is(1, x.tracking(15, 3));
        x.set(1, 1);
        is(4, x.tracking(15, -1));
    }

    private static void judging() {
        promise(15);
        x.mast(cell(8, 8), 12);
        x.plot(cell(8, 8), 1);
        x.plot(cell(9, 8), 1);
        x.minutes(1);
        x.plot(cell(8, 8), 1);
        x.plot(cell(12, 8), 1);
        is(BEYOND, x.judge(16, 0), x.judge(-1, 0), x.judge(15, -1), x.judge(15, 4), x.judge(0, 4), x.judge(16, 4));
        is(NONE, x.judge(15, 0), x.judge(0, 0));
        fillSheet(0, 8, -1, -1, -1, -1);
        is(4, x.judge(15, 0));
        is(KIND, x.judge(7, 0), x.judge(0, 0));
        x.put(0, 2, 1);
        is(3, x.judge(15, 0));
        x.put(0, 2, 0);
        is(3, x.judge(15, 0));
        x.put(0, 3, 0);
        is(-1, x.judge(15, 0));
        x.put(0, 3, 1);
        is(-1, x.judge(15, 0));
        x.set(1, 3);
        is(2, x.judge(15, 0));
        x.put(0, 2, 3);
        is(-1, x.judge(15, 0));
        x.put(0, 2, 2);
        is(-1, x.judge(15, 0));
        x.put(0, 2, 4);
        is(-1, x.judge(15, 0));
        x.put(0, 2, -2);
        is(-1, x.judge(15, 0));
        x.put(0, 2, 32);
        is(-1, x.judge(15, 0));
        // Sheets tell PLOTS by their numbers, for those of the set alone.
        fillSheet(1, 32, -1, 1);
        is(1, x.judge(6, 1), x.judge(10, 1));
        is(-1, x.judge(5, 1), x.judge(9, 1));
        fillSheet(1, 32, 1, -1);
        is(-1, x.judge(6, 1));
        for (int i = 0; i < 6; i++) {
            x.plot(cell(8, 8), 1);
        }
        fillSheet(2, 8, -1, -1, -1, -1, -1, -1, -1, -1, -1);
        is(9, x.judge(511, 2));
        fillSheet(2, 8, -1, -1, -1, -1, -1, -1, -1, -1, -1, -1);
        is(KIND, x.judge(1023, 2));
        x.sheet(2, 8, 0);
        is(KIND, x.judge(0, 2), x.judge(1, 2));
        fillSheet(2, 8, -1);
        is(1, x.judge(1, 2), x.judge(8, 2));
        // One that two follow, though each alone might.
        fillSheet(2, 16, -1, 0, 0);
        is(-1, x.judge(21, 2));
        x.put(2, 1, -1);
        is(2, x.judge(21, 2));
        x.put(2, 1, 0);
        x.put(2, 2, -1);
        is(2, x.judge(21, 2));
        is(KIND, x.judge(511, 2));
    }

    private static void flyers() {
        promise(16);
        is(0, x.flyer(0, 0, 0, 1));
        is(1, x.flyer(1, 255, 3799, 9));
        is(2, x.flyer(2, 17, 2345, 4));
        is(3, x.flyer(3, 17, 99, 4));
        is(BEYOND, x.flyer(4, 0, 0, 1), x.flyer(5, 0, 0, 1), x.flyer(-1, 0, 0, 1), x.flyer(MAX, 0, 0, 1));
        is(BEYOND, x.flyer(0, -1, 0, 1), x.flyer(0, 256, 0, 1));
        is(BEYOND, x.flyer(0, 0, -1, 1), x.flyer(0, 0, 4000, 1), x.flyer(0, 0, 3800, 1), x.flyer(0, 0, 800, 1),
            x.flyer(0, 0, 999, 1), x.flyer(0, 0, 1850, 1), x.flyer(0, 0, MIN, 1), x.flyer(0, 0, MAX, 1));
        is(BEYOND, x.flyer(0, 0, 0, 0), x.flyer(0, 0, 0, 10));
        int[] last = {2, 17, 45, 2, 3, 4, 0, -1, -1, -1, 0, 1};
        for (int w = 0; w < 12; w++) {
            is(last[w], x.flyerIs(2, w));
        }
        is(3, x.flyerIs(1, 3));
        is(7, x.flyerIs(1, 4));
        is(99, x.flyerIs(1, 2), x.flyerIs(3, 2));
        for (int i = 4; i < 16; i++) {
            is(i, x.flyer(0, 0, 0, 1));
        }
        is(FULL, x.flyer(0, 0, 0, 1));
        is(BEYOND, x.flyer(0, 256, 0, 1));
        x.field(0);
        is(FULL, x.flight(0, 1, 1, 1, false));
        is(16, x.count(5));
        promise(19);
        is(BEYOND, x.flyerIs(0, 0));
        x.flyer(0, 5, 0, 1);
        x.flyer(3, 5, 0, 1);
        is(BEYOND, x.flyerIs(2, 0), x.flyerIs(-1, 0), x.flyerIs(0, -1), x.flyerIs(0, 12), x.flyerIs(MAX, 0), x.flyerIs(0, MIN));
        is(1, x.flyerIs(0, 11));
        is(0, x.flyerIs(1, 11), x.flyerIs(1, 10));
        x.answer(1, true);
        is(1, x.flyerIs(1, 10));
        is(0, x.flyerIs(1, 11));
    }

    private static void flights() {
        promise(17);
        is(BEYOND, x.flight(0, 1, 1, 1, false));
        x.field(7);
        x.field(200);
        is(0, x.flight(1, 99, 99, 9, false));
        is(1, x.flight(0, 0, 0, 1, true));
        int[] a = {4, 200, 0, 0, 0, 9, 1, 99, 99, -1, 0, 0};
        int[] b = {5, 7, 0, 0, 0, 1, 1, 0, 0, -1, 0, 0};
        for (int w = 0; w < 12; w++) {
            is(a[w], x.flyerIs(0, w));
            is(b[w], x.flyerIs(1, w));
        }
        is(BEYOND, x.flight(2, 1, 1, 1, false), x.flight(-1, 1, 1, 1, false), x.flight(MAX, 1, 1, 1, true));
        is(BEYOND, x.flight(0, -1, 1, 1, false), x.flight(0, 100, 1, 1, false), x.flight(0, 1, -1, 1, false),
            x.flight(0, 1, 100, 1, false), x.flight(0, 1, 1, 0, false), x.flight(0, 1, 1, 10, false));
        for (int i = 2; i < 16; i++) {
            is(i, x.flight(0, 1, 1, 1, i % 2 == 0));
        }
        is(FULL, x.flight(0, 1, 1, 1, false));
        is(BEYOND, x.flight(2, 1, 1, 1, false));
        is(16, x.count(12));
    }

    private static void kinds() {
        promise(18);
        is(BEYOND, x.as(0, 0));
        x.field(0);
        for (int k = 0; k < 4; k++) {
            x.flyer(k, 0, 0, k + 1);
        }
        x.flight(0, 0, 0, 5, false);
        x.flight(0, 0, 0, 6, true);
        String[] are = {"X.....", "XX....", "XXX...", "X..X..", "X..XX.", "X..XXX"};
        for (int f = 0; f < 6; f++) {
            for (int k = 0; k < 6; k++) {
                is(are[f].charAt(k) == 'X' ? f + 1 : KIND, x.as(f, k));
            }
        }
        is(BEYOND, x.as(6, 0), x.as(-1, 0), x.as(0, -1), x.as(0, 6), x.as(MAX, 0), x.as(0, MIN));
        promise(20);
        x.field(0);
        for (int k = 0; k < 4; k++) {
            x.flyer(k, 0, 0, 1);
        }
        x.flight(0, 0, 0, 5, false);
        x.flight(0, 0, 0, 6, true);
        is(KIND, x.answer(0, true), x.answer(1, false), x.answer(2, true));
        is(0, x.answer(3, false));
        is(1, x.answer(3, true), x.answer(4, true), x.answer(5, true), x.answer(3, false), x.answer(3, true));
        is(0, x.answer(3, true), x.flyerIs(0, 10));
        is(1, x.flyerIs(5, 10));
        is(BEYOND, x.answer(6, true), x.answer(-1, true), x.answer(MIN, false));
    }

    /** Fields 0 at (8, 8); flight 0; raid 1 beside it. */
    private static void scene(int fuel, int rounds, int told, int many) {
        x = new RaidRoom();
        x.field(cell(8, 8));
        x.flight(0, fuel, rounds, 1, false);
        x.flyer(1, cell(11, 8), told, many);
    }

    private static void sending() {
        promise(21);
        scene(9, 9, 0, 1);
        x.flyer(3, 0, 0, 1);
        x.flyer(0, 15, 3000, 1);
        x.flight(0, 9, 9, 1, true);
        is(BEYOND, x.send(5, 1), x.send(0, 5), x.send(-1, 1), x.send(0, -1), x.send(1, 5), x.send(MAX, MIN));
        is(KIND, x.send(1, 2), x.send(0, 4), x.send(0, 0), x.send(1, 0));
        is(1, x.send(0, 1));
        is(0, x.flyerIs(0, 6));
        is(1, x.flyerIs(0, 9));
        is(1, x.fill(4, 2, 9), x.send(0, 2), x.send(4, 2), x.send(0, 3));
        is(3, x.flyerIs(0, 9));
        is(cell(8, 8), x.flyerIs(0, 1));
        x.minutes(1);
        is(2, x.flyerIs(3, 6));
        is(STATE, x.send(0, 3));
        is(KIND, x.send(1, 3));
        x.minutes(2);
        is(2, x.flyerIs(4, 6));
        is(STATE, x.send(4, 1), x.send(4, 3));
        scene(0, 9, 0, 1);
        is(NONE, x.send(0, 1));
        is(1, x.flyerIs(0, 6));
        is(-1, x.flyerIs(0, 9));
        scene(9, 0, 0, 1);
        is(NONE, x.send(0, 1));
        x.flyer(1, cell(15, 8), 3000, 1);
        x.minutes(1);
        is(STATE, x.send(0, 2));
        promise(22);
        scene(9, 9, 0, 1);
        is(BEYOND, x.back(2), x.back(-1), x.back(MAX));
        is(KIND, x.back(1));
        is(STATE, x.back(0));
        x.send(0, 1);
        is(1, x.back(0));
        is(-1, x.flyerIs(0, 9));
        is(0, x.back(0), x.flyerIs(0, 6));
        is(1, x.send(0, 1), x.back(0));
        x.minutes(1);
        is(1, x.flyerIs(0, 6));
        is(STATE, x.back(0));
        // After flyer 0, and back to a field of another number.
        promise(22);
        x.flyer(1, cell(8, 8), 50, 9);
        x.field(0);
        x.field(cell(8, 8));
        x.flight(1, 90, 9, 1, true);
        x.send(1, 0);
        x.minutes(1);
        is(0, x.flyerIs(1, 6), x.flyerIs(1, 9));
        is(10, x.flyerIs(1, 2));
        is(1, x.back(1));
        is(0, x.back(1));
        x.minutes(1);
        is(1, x.flyerIs(1, 6));
        is(cell(8, 8), x.flyerIs(1, 1));
        x.flyer(1, cell(15, 8), 99, 9);
        x.send(1, 2);
        x.minutes(4);
        is(40, x.flyerIs(1, 2));
        is(cell(15, 8), x.flyerIs(1, 1));
        x.back(1);
        x.minutes(3);
        is(10, x.flyerIs(1, 2));
        is(cell(9, 8), x.flyerIs(1, 1));
        is(0, x.flyerIs(1, 6));
        x.minutes(1);
        is(1, x.flyerIs(1, 6));
        promise(22);
        x.field(cell(0, 0));
        x.flight(0, 90, 9, 1, true);
        x.flyer(1, cell(15, 0), 15, 9);
        x.send(0, 1);
        x.minutes(5);
        x.back(0);
        x.minutes(1);
        is(5, x.flyerIs(0, 2));
        x.minutes(1);
        is(0, x.flyerIs(0, 2), x.flyerIs(0, 6));
    }

    private static void filling() {
        promise(23);
        scene(9, 9, 0, 1);
        is(1, x.fill(0, 0, 99));
        is(0, x.flyerIs(0, 7));
        is(99, x.flyerIs(0, 8));
        is(1, x.fill(0, 99, 0));
        is(99, x.flyerIs(0, 7));
        is(0, x.flyerIs(0, 8));
        is(BEYOND, x.fill(2, 1, 1), x.fill(-1, 1, 1), x.fill(0, -1, 1), x.fill(0, 100, 1), x.fill(0, 1, -1), x.fill(0, 1, 100));
        is(BEYOND, x.fill(1, 100, 1), x.fill(MIN, 1, 1));
        is(KIND, x.fill(1, 1, 1));
        x.fill(0, 1, 1);
        x.send(0, 1);
        is(STATE, x.fill(0, 9, 9));
        is(1, x.flyerIs(0, 7));
        is(BEYOND, x.fill(0, 100, 9));
        x.back(0);
        x.minutes(1);
        is(1, x.fill(0, 9, 9));
        x.flyer(1, 0, 0, 9);
        x.fill(0, 1, 1);
        x.send(0, 2);
        x.minutes(2);
        is(2, x.flyerIs(0, 6));
        is(STATE, x.fill(0, 9, 9));
    }

    private static void minuteEnds() {
        promise(32);
        // Every way, one and more cells a minute, and off the land.
        int[][] ways = {{1, 0}, {1, 1}, {0, 1}, {-1, 1}, {-1, 0}, {-1, -1}, {0, -1}, {1, -1}};
        for (int w = 0; w < 8; w++) {
            for (int p = 0; p < 4; p++) {
                x = new RaidRoom();
                x.flyer(w % 4, cell(8, 8), 1000 * p + 100 * w + 7, 3);
                x.minutes(2);
                is(cell(8 + 2 * p * ways[w][0], 8 + 2 * p * ways[w][1]), x.flyerIs(0, 1));
                is(7, x.flyerIs(0, 2));
                is(0, x.flyerIs(0, 6));
            }
        }
        x = new RaidRoom();
        x.flyer(1, cell(13, 3), 2000, 3);
        x.flyer(2, cell(13, 15), 1200, 3);
        x.flyer(3, cell(0, 1), 1400, 3);
        x.flyer(0, cell(5, 2), 3600, 3);
        x.minutes(1);
        is(cell(15, 3), x.flyerIs(0, 1));
        is(0, x.flyerIs(0, 6));
        is(2, x.flyerIs(1, 6), x.flyerIs(2, 6), x.flyerIs(3, 6));
        is(cell(13, 15), x.flyerIs(1, 1));
        is(cell(0, 1), x.flyerIs(2, 1));
        is(cell(5, 2), x.flyerIs(3, 1));
        is(3, x.flyerIs(3, 5));
        x.minutes(1);
        is(2, x.flyerIs(0, 6));
        is(cell(15, 3), x.flyerIs(0, 1));
        // A flight climbs, falls, steps and runs dry.
        scene(5, 9, 35, 1);
        x.flyer(3, cell(1, 15), 25, 1);
        x.send(0, 2);
        x.minutes(1);
        is(10, x.flyerIs(0, 2));
        is(cell(6, 10), x.flyerIs(0, 1));
        is(4, x.flyerIs(0, 7));
        x.minutes(1);
        is(20, x.flyerIs(0, 2));
        is(cell(4, 12), x.flyerIs(0, 1));
        x.minutes(1);
        is(25, x.flyerIs(0, 2));
        is(cell(2, 14), x.flyerIs(0, 1));
        // It met: one round, one flyer, after one that is gone until the next minute.
        is(8, x.flyerIs(0, 8));
        is(0, x.flyerIs(2, 5));
        is(2, x.flyerIs(2, 6), x.flyerIs(0, 9));
        x.send(0, 1);
        x.minutes(1);
        is(35, x.flyerIs(0, 2));
        is(cell(4, 12), x.flyerIs(0, 1));
        is(1, x.flyerIs(0, 7));
        x.back(0);
        x.minutes(1);
        is(25, x.flyerIs(0, 2));
        is(cell(6, 10), x.flyerIs(0, 1));
        is(0, x.flyerIs(0, 7), x.flyerIs(0, 6));
        x.minutes(1);
        is(0, x.flyerIs(0, 7));
        is(2, x.flyerIs(0, 6));
        is(cell(6, 10), x.flyerIs(0, 1));
        is(25, x.flyerIs(0, 2));
        is(-1, x.flyerIs(0, 9));
        x.minutes(1);
        is(cell(6, 10), x.flyerIs(0, 1));
        // Dry while it is after one.
        scene(1, 9, 35, 1);
        x.send(0, 1);
        x.minutes(1);
        is(0, x.flyerIs(0, 6), x.flyerIs(0, 7));
        is(1, x.flyerIs(0, 9));
        x.minutes(1);
        is(2, x.flyerIs(0, 6));
        is(-1, x.flyerIs(0, 9));
        is(0, x.flyerIs(0, 7));
        // Down flights use nothing.
        scene(5, 9, 35, 1);
        x.minutes(9);
        is(5, x.flyerIs(0, 7));
        is(1, x.flyerIs(0, 6));
    }

    private static void meetingEnds() {
        promise(32);
        // Not before it is at the height, and one cell off at most.
        scene(50, 9, 30, 4);
        x.send(0, 1);
        x.minutes(2);
        is(4, x.flyerIs(1, 5));
        is(9, x.flyerIs(0, 8));
        is(20, x.flyerIs(0, 2));
        x.minutes(1);
        is(0, x.flyerIs(1, 5));
        is(2, x.flyerIs(1, 6));
        is(5, x.flyerIs(0, 8));
        is(1, x.flyerIs(0, 9));
        is(0, x.flyerIs(0, 6));
        x.minutes(1);
        is(-1, x.flyerIs(0, 9));
        is(20, x.flyerIs(0, 2));
        is(cell(9, 8), x.flyerIs(0, 1));
        x.minutes(1);
        is(cell(8, 8), x.flyerIs(0, 1));
        is(1, x.flyerIs(0, 6));
        is(0, x.flyerIs(0, 2));
        is(45, x.flyerIs(0, 7));
        // Rounds run out first: it goes back, the raid flies on.
        scene(50, 3, 10, 4);
        x.send(0, 1);
        x.minutes(1);
        is(1, x.flyerIs(1, 5));
        is(0, x.flyerIs(1, 6), x.flyerIs(0, 8), x.flyerIs(0, 6));
        is(-1, x.flyerIs(0, 9));
        is(cell(10, 8), x.flyerIs(0, 1));
        // Both at once.
        scene(50, 4, 10, 4);
        x.send(0, 1);
        x.minutes(1);
        is(0, x.flyerIs(1, 5), x.flyerIs(0, 8));
        is(2, x.flyerIs(1, 6));
        is(-1, x.flyerIs(0, 9));
        // From above, coming down.
        scene(50, 9, 90, 1);
        x.flyer(2, cell(8, 14), 20, 9);
        x.send(0, 1);
        x.minutes(7);
        is(70, x.flyerIs(0, 2));
        x.send(0, 2);
        x.minutes(2);
        is(50, x.flyerIs(0, 2));
        is(9, x.flyerIs(2, 5));
        x.minutes(1);
        is(40, x.flyerIs(0, 2));
        is(0, x.flyerIs(2, 5), x.flyerIs(0, 8));
        // On its own field, without rounds: it goes back, and is down at once.
        promise(32);
        x.field(cell(8, 8));
        x.flight(0, 9, 1, 1, false);
        x.flyer(1, cell(8, 8), 5, 4);
        x.send(0, 1);
        x.minutes(1);
        is(3, x.flyerIs(1, 5));
        is(1, x.flyerIs(0, 6));
        is(0, x.flyerIs(0, 2));
        is(-1, x.flyerIs(0, 9));
        // After flyer 0.
        promise(32);
        x.flyer(1, cell(12, 9), 5, 4);
        x.field(cell(8, 8));
        x.flight(0, 9, 9, 1, false);
        x.send(1, 0);
        x.minutes(1);
        is(cell(10, 9), x.flyerIs(1, 1));
        is(5, x.flyerIs(1, 2));
        x.minutes(1);
        is(0, x.flyerIs(0, 5));
        is(5, x.flyerIs(1, 8));
        // Two after one: the lesser number takes it, the other one turns in the same minute.
        promise(32);
        x.field(cell(8, 8));
        x.flight(0, 9, 9, 1, false);
        x.flight(0, 9, 9, 1, true);
        x.flyer(1, cell(11, 8), 5, 4);
        x.send(1, 2);
        x.send(0, 2);
        x.minutes(1);
        is(5, x.flyerIs(0, 8));
        is(9, x.flyerIs(1, 8));
        is(2, x.flyerIs(0, 9));
        is(-1, x.flyerIs(1, 9));
        is(1, x.flyerIs(1, 6));
        is(cell(10, 8), x.flyerIs(0, 1));
        // One that left the land is not met.
        promise(32);
        x.field(cell(14, 8));
        x.flight(0, 9, 9, 1, false);
        x.flyer(1, cell(15, 8), 1000, 4);
        x.send(0, 1);
        x.minutes(1);
        is(2, x.flyerIs(1, 6));
        is(4, x.flyerIs(1, 5));
        is(1, x.flyerIs(0, 6));
        is(8, x.flyerIs(0, 7));
    }

    private static void sirens() {
        promise(32);
        x.town(cell(8, 8));
        x.town(cell(0, 0));
        x.flyer(1, cell(5, 8), 1000, 4);
        x.flyer(2, cell(0, 12), 600, 5);
        x.minutes(1);
        is(1, x.townIs(0, 1), x.townIs(0, 2));
        is(0, x.townIs(1, 1), x.townIs(0, 3), x.townIs(1, 2));
        x.minutes(1);
        is(2, x.townIs(0, 2));
        // Without sirens the bombs fall: all of a raid, one of a spoof, none of others.
        promise(32);
        x.field(cell(8, 8));
        x.town(cell(8, 8));
        x.town(cell(8, 9));
        rule("0", 0, 0);
        x.flyer(1, cell(8, 8), 50, 4);
        x.flyer(1, cell(8, 8), 0, 3);
        x.flyer(2, cell(8, 8), 0, 9);
        x.flyer(0, cell(8, 8), 0, 9);
        x.flyer(3, cell(8, 8), 0, 9);
        x.flight(0, 9, 9, 9, true);
        x.flyer(2, cell(8, 9), 1000, 2);
        x.minutes(1);
        is(8, x.townIs(0, 3));
        is(0, x.townIs(0, 1), x.townIs(0, 2), x.townIs(1, 3));
        x.minutes(2);
        is(24, x.townIs(0, 3), x.count(14));
        rule("1", 0, 5);
        x.minutes(1);
        is(32, x.townIs(0, 3));
        x.minutes(1);
        is(32, x.townIs(0, 3));
        is(1, x.townIs(0, 2), x.townIs(0, 1), x.townIs(1, 2));
        is(2, x.count(13));
        // Without a rule: on below 3.
        promise(32);
        x.town(cell(8, 8));
        x.town(cell(9, 8));
        x.flyer(1, cell(5, 8), 0, 4);
        x.flyer(1, cell(11, 14), 0, 4);
        x.minutes(1);
        is(0, x.townIs(0, 1));
        x.town(cell(3, 10));
        x.minutes(1);
        is(0, x.townIs(0, 1), x.townIs(1, 1));
        is(1, x.townIs(2, 1));
        // By the names: far, many, weather, minute.
        promise(32);
        x.town(cell(8, 8));
        x.town(cell(0, 8));
        x.flyer(1, cell(8, 3), 0, 4);
        x.flyer(2, cell(8, 2), 0, 3);
        x.flyer(3, cell(8, 8), 0, 3);
        x.set(0, 6);
        rule("f=5&m=7&w=6&t=2", 0, 0);
        x.minutes(1);
        is(0, x.townIs(0, 1));
        x.minutes(1);
        is(1, x.townIs(0, 1));
        is(0, x.townIs(1, 1));
        x.minutes(1);
        is(0, x.townIs(0, 1));
        is(1, x.townIs(0, 2));
        rule("0-1", 0, 0);
        x.minutes(1);
        is(1, x.townIs(0, 1), x.townIs(1, 1));
        promise(32);
        x.town(5);
        rule("f=99", 0, 0);
        x.minutes(1);
        is(1, x.townIs(0, 1));
    }

    private static void tape() {
        promise(24);
        is(BEYOND, x.feed(0, 0), x.feed(0, 9), x.feed(0, -1), x.feed(0, MAX), x.feed(0, MIN));
        is(1, x.feed(0x3131313131313137L, 1));
        is(3, x.feed(0x2a2bL, 2));
        is(4, x.feed(0x35L, 1));
        is(4, x.count(8));
        // 7 + * is no text: the fault shows the order of the bytes.
        is(-12, x.rule(0, 0));
        is(0, x.count(8));
        is(8, x.feed(0x312b312b312b312bL, 8));
        is(16, x.feed(-1L, 8));
        for (int i = 3; i <= 6; i++) {
            is(8 * i, x.feed(0, 8));
        }
        is(FULL, x.feed(0, 3), x.feed(0, 8));
        is(50, x.feed(0, 2));
        is(FULL, x.feed(0, 1));
        is(BEYOND, x.feed(0, 9));
        is(50, x.count(8));
        promise(24);
        // "19-8+002" by one word, the lowest byte first.
        is(8, x.feed(0x3230302b382d3931L, 8));
        is(0, x.rule(0, 0));
        is(13, x.says(0, 0, 0, 0, 0));
        promise(25);
        is(-10, x.rule(0, 0), x.rule(2, 1000));
        is(BEYOND, x.rule(-1, 0), x.rule(3, 0), x.rule(0, -1), x.rule(0, 1001), x.rule(MAX, 0), x.rule(0, MIN));
        x.feed('7', 1);
        is(BEYOND, x.rule(3, 0), x.rule(0, 1001));
        is(1, x.count(8));
        is(0, x.rule(0, 1000));
        is(0, x.count(8));
        for (int i = 1; i < 12; i++) {
            is(i, rule("" + i, i % 3, 0));
        }
        x.feed('*', 1);
        is(FULL, x.rule(0, 0));
        is(BEYOND, x.rule(0, -1));
        is(1, x.count(8));
        is(12, x.count(6));
        is(7, x.says(0, 0, 0, 0, 0));
        is(11, x.says(11, 0, 0, 0, 0));
        promise(25);
        // A text as long as the tape.
        is(0, rule("1+1+1+1+1+1+1+1+1+1+1+1+1+1+1+1+1+1+1+1+1+1+1+1+10", 0, 0));
        is(34, x.says(0, 0, 0, 0, 0));
        is(1, rule("!1+1+1+1+1+1+1+1+1+1+1+1+1+1+1+1+1+1+1+1+1+1+1+1+1", 0, 0));
        is(24, x.says(1, 0, 0, 0, 0));
        is(-60, rule("1+1+1+1+1+1+1+1+1+1+1+1+1+1+1+1+1+1+1+1+1+1+1+1+1+", 0, 0));
    }

    private static void faults() {
        promise(25);
        String[] texts = {"", "1", "12", "123", "1234", "f", "x", "F", "1 ", " 1", "f+", "f+-", "f--", "1f", "f1", "ff", "()", "(f", "(f)",
            "(f))", "f)", "!f", "!", "!!f", "f!", "f<m", "f<m<w", "f<m=w", "f<(m=w)", "f<m|m>w", "f<m&m>w&1", "f=<m", "f==m", "f||m",
            "|f", "&", "*", "!!!!!f", "!!!!!!f", "(((((f)))))", "((((((f", "!(!(!f))", "!(!(!(f", "(!(!(!1", "(f)(m)", "f*(m", "!(f)!",
            "!f+!!!!!m", "!(f+!!!m)", "!(f+!!!!!m)", "(f)+((((!(f", "0-5", "-5", "007", "0000", "1,", "f\u00e9", "1=1=1", "(1=1)=1",
            "1=1|1=1=1", "(1=1|2)>3<4", "s", "d", "(f<m)*w-t", "!!!!!(", "((((( ", "1+2)", "(1+2", "1+2*"};
        int[] faults = {0, -1, -1, -1, 3, -1, 0, 0, 1, 0, 2, 2, 2, 1, 1, 1, 1, 2, -1,
            3, 1, -1, 1, -1, 1, -1, 3, 3, -1, -1, -1, 2, 2, 2,
            0, 0, 0, -1, 5, -1, 5, -1, 5, 5, 3, 4, 4,
            -1, -1, 7, 9, -1, 0, -1, 3, 1, 1, 3, -1,
            7, 9, 0, 0, -1, 5, 5, 3, 4, 4};
        for (int i = 0; i < texts.length; i++) {
            x = new RaidRoom();
            is(faults[i] < 0 ? 0 : -10 - faults[i], rule(texts[i], 0, 0));
            is(0, x.count(8));
            is(faults[i] < 0 ? 1 : 0, x.count(6));
        }
        // Each use has its own names.
        String names = "fmwtshandu";
        int[] of = {0, 0, 0, 0, 1, 1, 1, 1, 2, 2};
        for (int use = 0; use < 3; use++) {
            x = new RaidRoom();
            int made = 0;
            for (int i = 0; i < names.length(); i++) {
                is(of[i] == use ? made++ : -12, rule("1+" + names.charAt(i), use, 0));
            }
        }
        promise(25);
        for (int c = 0; c < 256; c++) {
            if ("0123456789dus!(".indexOf(c) < 0) {
                x.feed('1', 1);
                x.feed('+', 1);
                x.feed(c, 1);
                is(-12, x.rule(2, 0));
            }
        }
    }

    private static int worthOf(String text, int a, int b, int c, int d) {
        x = new RaidRoom();
        is(0, rule(text, 0, 0));
        return x.says(0, a, b, c, d);
    }

    private static void worth() {
        promise(27);
        is(BEYOND, x.says(0, 1, 1, 1, 1), x.says(-1, 1, 1, 1, 1));
        is(1, worthOf("f", 1, 2, 3, 4));
        is(2, worthOf("m", 1, 2, 3, 4));
        is(3, worthOf("w", 1, 2, 3, 4));
        is(4, worthOf("t", 1, 2, 3, 4));
        is(BEYOND, x.says(1, 0, 0, 0, 0), x.says(MAX, 0, 0, 0, 0), x.says(MIN, 0, 0, 0, 0), x.says(-1, 0, 0, 0, 0));
        is(14, worthOf("2+3*4", 0, 0, 0, 0));
        is(20, worthOf("(2+3)*4", 0, 0, 0, 0));
        is(-5, worthOf("2-3-4", 0, 0, 0, 0));
        is(3, worthOf("2-(3-4)", 0, 0, 0, 0));
        is(24, worthOf("2*3*4", 0, 0, 0, 0));
        is(1, worthOf("1+1<1+2", 0, 0, 0, 0));
        is(0, worthOf("3<3", 0, 0, 0, 0), worthOf("3>3", 0, 0, 0, 0), worthOf("2=3", 0, 0, 0, 0), worthOf("4<3", 0, 0, 0, 0));
        is(1, worthOf("4>3", 0, 0, 0, 0), worthOf("3=3", 0, 0, 0, 0), worthOf("f<m", -5, 3, 0, 0), worthOf("f>m", MAX, MIN, 0, 0));
        is(1, worthOf("!0", 0, 0, 0, 0), worthOf("!!7", 0, 0, 0, 0), worthOf("!f", 0, 0, 0, 0), worthOf("!f+1", 5, 0, 0, 0));
        is(0, worthOf("!7", 0, 0, 0, 0), worthOf("!f", -1, 0, 0, 0), worthOf("!(0|1)", 0, 0, 0, 0));
        is(0, worthOf("!f*2", 3, 0, 0, 0));
        is(2, worthOf("!f*2", 0, 0, 0, 0));
        is(1, worthOf("5|0", 0, 0, 0, 0), worthOf("0|5", 0, 0, 0, 0), worthOf("5&7", 0, 0, 0, 0), worthOf("f|m", -1, 0, 0, 0));
        is(0, worthOf("0|0", 0, 0, 0, 0), worthOf("0&1", 0, 0, 0, 0), worthOf("1&0", 0, 0, 0, 0));
        is(1, worthOf("1|0&0", 0, 0, 0, 0), worthOf("0&0|1", 0, 0, 0, 0), worthOf("1&1|0", 0, 0, 0, 0));
        is(0, worthOf("(1|0)&0", 0, 0, 0, 0));
        is(1, worthOf("2&1=1", 0, 0, 0, 0));
        is(0, worthOf("1=2&1", 0, 0, 0, 0));
        is(5, worthOf("5", 0, 0, 0, 0), worthOf("(5)", 0, 0, 0, 0), worthOf("005", 0, 0, 0, 0));
        is(999, worthOf("999", 0, 0, 0, 0));
        is(MIN, worthOf("f+1", MAX, 0, 0, 0));
        is(MAX, worthOf("f-1", MIN, 0, 0, 0));
        is(MIN, worthOf("0-f", MIN, 0, 0, 0));
        is(-2, worthOf("f*2", MAX, 0, 0, 0));
        is(BEYOND, worthOf("f", BEYOND, 0, 0, 0));
        is(0, x.found(1));
        x = new RaidRoom();
        rule("s*1+h*10+a*100+n*999", 1, 0);
        is(1 + 20 + 300 + 3996, x.says(0, 1, 2, 3, 4));
        rule("d*10+u", 2, 0);
        is(12, x.says(1, 1, 2, 3, 4));
    }

    private static void force() {
        promise(26);
        is(BEYOND, x.force(-1, 0), x.force(3, 0), x.force(0, -1), x.force(0, 1001), x.force(MAX, 0), x.force(0, MIN));
        is(NONE, x.force(0, 0), x.force(2, 1000));
        rule("1", 0, 10);
        rule("1", 0, 5);
        rule("1", 1, 1000);
        rule("1", 0, 20);
        is(NONE, x.force(0, 4), x.force(0, 0), x.force(1, 999), x.force(2, 500));
        is(1, x.force(0, 5), x.force(0, 9), x.force(0, 10), x.force(0, 19));
        is(3, x.force(0, 20), x.force(0, 1000));
        is(2, x.force(1, 1000));
        rule("0", 0, 0);
        is(4, x.force(0, 0), x.force(0, 1000));
        is(NONE, x.force(2, 0));
        promise(26);
        rule("0", 2, 0);
        is(0, x.force(2, 0), x.force(2, 1000));
    }

    private static void hostile() {
        promise(19);
        x.field(0);
        for (int k = 0; k < 4; k++) {
            x.flyer(k, 0, 1203, k + 1);
        }
        x.flight(0, 0, 0, 5, false);
        x.flight(0, 0, 0, 6, true);
        int[] without = {1, 1, 1, 0, 0, 0};
        for (int f = 0; f < 6; f++) {
            is(without[f], x.flyerIs(f, 11));
        }
        rule("s=1&h=3&a=1|n=6", 1, 1);
        is(0, x.flyerIs(3, 11), x.flyerIs(5, 11));
        x.answer(3, true);
        is(1, x.flyerIs(0, 11));
        x.minutes(1);
        int[] with = {0, 0, 0, 1, 0, 1};
        for (int f = 0; f < 6; f++) {
            is(with[f], x.flyerIs(f, 11));
        }
        x.answer(3, false);
        is(0, x.flyerIs(3, 11));
        rule("0-7", 1, 0);
        is(1, x.flyerIs(4, 11));
    }

    private static void meetings() {
        promise(28);
        scene(9, 9, 30, 4);
        x.flyer(0, cell(15, 8), 1000, 1);
        is(BEYOND, x.meeting(3, 1), x.meeting(0, 3), x.meeting(-1, 1), x.meeting(0, -1), x.meeting(1, 3));
        is(KIND, x.meeting(1, 2), x.meeting(0, 0), x.meeting(1, 0));
        is(3, x.meeting(0, 1));
        is(NONE, x.meeting(0, 2));
        is(1, x.flyerIs(0, 6));
        x.minutes(1);
        is(STATE, x.meeting(0, 2));
        is(4, x.meeting(0, 1));
        x.fill(0, 3, 9);
        is(4, x.meeting(0, 1));
        x.fill(0, 2, 9);
        is(NONE, x.meeting(0, 1));
        x.fill(0, 0, 9);
        is(NONE, x.meeting(0, 1));
        x.fill(0, 9, 0);
        is(NONE, x.meeting(0, 1));
        x.fill(0, 9, 1);
        is(4, x.meeting(0, 1));
        x.send(0, 1);
        x.minutes(1);
        is(4, x.meeting(0, 1));
        x.back(0);
        is(4, x.meeting(0, 1));
        // One that is gone meets no more.
        promise(28);
        x.field(0);
        x.flight(0, 1, 5, 1, false);
        x.flyer(1, 255, 0, 1);
        x.send(0, 1);
        x.minutes(2);
        is(2, x.flyerIs(0, 6));
        is(STATE, x.meeting(0, 1));
        // Others do nothing to either: the one that is sent would take it first.
        promise(28);
        x.field(cell(8, 8));
        x.field(cell(0, 0));
        x.flight(0, 50, 9, 1, false);
        x.flight(1, 50, 9, 1, true);
        x.flyer(1, cell(9, 8), 0, 1);
        x.send(0, 2);
        is(1, x.meeting(0, 2));
        is(4, x.meeting(1, 2));
        // Off the land ahead of the meeting.
        promise(28);
        x.field(cell(0, 8));
        x.flight(0, 90, 9, 1, false);
        x.flyer(1, cell(5, 8), 2000, 1);
        x.flyer(1, cell(3, 8), 1000, 1);
        is(NONE, x.meeting(0, 1));
        is(2, x.meeting(0, 2));
        // In the land's first cell.
        promise(28);
        x.field(cell(2, 2));
        x.flight(0, 90, 9, 1, false);
        x.flyer(1, cell(3, 0), 1430, 1);
        is(3, x.meeting(0, 1));
        // As late as the height has it.
        promise(28);
        x.field(cell(0, 8));
        x.flight(0, 99, 9, 1, false);
        x.flyer(1, cell(1, 8), 99, 1);
        is(10, x.meeting(0, 1));
        x.minutes(200);
        is(210, x.meeting(0, 1));
    }

    private static void plans() {
        promise(29);
        is(0, x.sending(60, -1), x.sending(1, -2));
        is(NONE, x.sending(60, 0), x.sending(60, 5));
        is(BEYOND, x.sending(0, -1), x.sending(61, -1), x.sending(-5, 0), x.sending(5, -3), x.sending(5, 6), x.sending(MAX, 0), x.sending(5, MIN));
        x.field(cell(8, 8));
        x.flight(0, 50, 9, 1, false);
        x.flyer(1, cell(12, 8), 0, 1);
        x.flyer(1, cell(8, 15), 0, 1);
        is(1, x.sending(60, -1));
        is(2, x.sending(60, -2));
        is(0, x.sending(60, 0));
        is(-1, x.sending(60, 1));
        is(0, x.sending(1, -1));
        is(1, x.sending(2, -1));
        x.flight(0, 50, 9, 1, true);
        is(2, x.sending(60, -1));
        is(5, x.sending(60, -2));
        is(0, x.sending(60, 0));
        is(3, x.sending(60, 1));
        x.minutes(10);
        is(25, x.sending(60, -2));
        is(1, x.sending(2, -1));
        // More met are worth any wait.
        promise(29);
        x.field(cell(8, 8));
        x.field(cell(0, 8));
        x.flight(1, 50, 9, 1, false);
        x.flight(0, 2, 9, 1, false);
        x.flyer(1, cell(8, 11), 0, 1);
        x.flyer(1, cell(8, 0), 0, 1);
        is(2, x.sending(60, -1));
        is(1, x.sending(60, 0));
        is(0, x.sending(60, 1));
        is(5, x.sending(60, -2));
        is(1, x.sending(3, -1));
        is(1, x.sending(3, 0));
        // The least six of each; gone ones and those up do not count.
        promise(29);
        x.field(cell(8, 8));
        for (int i = 0; i < 8; i++) {
            x.flight(0, 50, 9, 1, false);
        }
        for (int i = 0; i < 7; i++) {
            x.flyer(1 + i % 2, cell(8, 8), i == 0 ? 3000 : 0, 1);
        }
        is(6, x.sending(60, -1));
        for (int i = 0; i < 6; i++) {
            is(i, x.sending(60, i));
        }
        x.minutes(3);
        is(6, x.sending(60, -1));
        x.send(0, 9);
        is(1, x.sending(60, 0));
        is(6, x.sending(60, 5));
        x.minutes(1);
        is(5, x.sending(60, -1));
        is(NONE, x.sending(60, 5));
    }

    private static void keptDown() {
        promise(29);
        x.field(cell(8, 8));
        for (int i = 0; i < 8; i++) {
            x.flight(0, 50, 9, 1, false);
        }
        for (int i = 0; i < 6; i++) {
            x.flyer(1, cell(8, 8), 0, 1);
        }
        is(6, x.sending(60, -1));
        // All flights that are down are counted, not just the six that may be sent.
        rule("3", 2, 0);
        is(5, x.sending(60, -1));
        is(4, x.sending(60, 4));
        is(-1, x.sending(60, 5));
        rule("8", 2, 0);
        is(0, x.sending(60, -1));
        rule("9", 2, 0);
        is(0, x.sending(60, -1), x.sending(60, -2));
        is(-1, x.sending(60, 0));
        rule("0-9", 2, 0);
        is(6, x.sending(60, -1));
        rule("2", 2, 0);
        is(6, x.sending(60, -1));
        rule("d-4+u*3", 2, 0);
        is(4, x.sending(60, -1));
        x.send(7, 8);
        is(1, x.sending(60, -1));
        rule("7", 2, 1);
        is(1, x.sending(60, -1));
        x.minutes(1);
        is(0, x.sending(60, -1));
        // None is kept if the rule comes to 0 or less.
        promise(29);
        x.field(cell(8, 8));
        x.flight(0, 50, 9, 1, false);
        x.flyer(1, cell(8, 8), 0, 1);
        rule("0-1", 2, 0);
        is(1, x.sending(60, -1));
        rule("0", 2, 0);
        is(1, x.sending(60, -1));
        rule("1", 2, 0);
        is(0, x.sending(60, -1));
    }

    private static void pilots() {
        promise(30);
        is(BEYOND, x.pilots(-1, 0), x.pilots(4, 0), x.pilots(MAX, 0));
        is(NONE, x.pilots(0, 0), x.pilots(0, 99));
        x.sheet(0, 8, 0);
        is(KIND, x.pilots(0, 0), x.pilots(0, 99));
        x.sheet(0, 8, 11);
        is(KIND, x.pilots(0, 0));
        x.sheet(0, 8, 10);
        is(0, x.pilots(0, 0), x.pilots(0, 9));
        is(BEYOND, x.pilots(0, 10), x.pilots(0, -1), x.pilots(0, MIN));
        fillSheet(0, 8, 7);
        is(KIND, x.pilots(0, 0), x.pilots(0, 5));
        fillSheet(0, 8, -1);
        is(KIND, x.pilots(0, 0));
        fillSheet(0, 8, 6, 6, 1);
        is(STATE, x.pilots(0, 0), x.pilots(0, 2));
        is(BEYOND, x.pilots(0, 3));
        fillSheet(0, 8, 6, 6, 0, 6, 6);
        int[] full = {63, 63, 0, 63, 63};
        for (int d = 0; d < 5; d++) {
            is(full[d], x.pilots(0, d));
        }
        // The least sets, unless a later day would have none.
        fillSheet(0, 32, 2, 2, 2, 2, 2);
        int[] twos = {3, 3, 12, 3, 3};
        for (int d = 0; d < 5; d++) {
            is(twos[d], x.pilots(0, d));
        }
        fillSheet(0, 32, 4, 4, 4);
        is(15, x.pilots(0, 0));
        is(51, x.pilots(0, 1));
        is(60, x.pilots(0, 2));
        fillSheet(0, 32, 3, 3, 6);
        is(7, x.pilots(0, 0));
        is(56, x.pilots(0, 1));
        is(63, x.pilots(0, 2));
        fillSheet(0, 16, 1, 1, 1, 1, 1, 1, 1, 1, 1, 1);
        int[] ones = {1, 1, 2, 1, 1, 2, 1, 1, 2, 1};
        for (int d = 0; d < 10; d++) {
            is(ones[d], x.pilots(0, d));
        }
    }

    private static void laying() {
        promise(31);
        is(BEYOND, x.laying(-1, 0, 1, 0), x.laying(4, 0, 1, 0), x.laying(0, 4, 1, 0), x.laying(0, -1, 1, 0));
        is(BEYOND, x.laying(0, 0, 0, 0), x.laying(0, 0, 5, 0), x.laying(0, 0, 1, 1), x.laying(0, 0, 1, -2), x.laying(MAX, 0, 1, 0));
        is(NONE, x.laying(0, 1, 1, 0));
        fillSheet(0, 8, 1, 1, 3, 2, 1, 3, 9, 9, 4, 10, 10, 4);
        is(NONE, x.laying(0, 1, 1, 0), x.laying(1, 0, 1, 0));
        x.sheet(1, 32, 0);
        is(0, x.laying(0, 1, 1, -1), x.laying(0, 1, 4, -1));
        is(1, x.laying(0, 1, 1, 0));
        is(15, x.laying(0, 1, 4, 0));
        is(KIND, x.laying(1, 1, 1, 0), x.laying(1, 0, 1, 0));
        fillSheet(1, 32, cell(1, 1), cell(2, 2), cell(9, 9), cell(9, 9), cell(10, 9), cell(15, 0));
        is(0, x.laying(0, 1, 1, -1));
        is(1, x.laying(0, 1, 1, 0));
        is(3, x.laying(0, 1, 2, -1));
        is(12, x.laying(0, 1, 2, 0));
        is(3, x.laying(0, 1, 3, -1));
        is(13, x.laying(0, 1, 3, 0));
        is(5, x.laying(0, 1, 4, -1));
        is(15, x.laying(0, 1, 4, 0));
        x.put(1, 5, 256);
        is(KIND, x.laying(0, 1, 1, 0));
        x.put(1, 5, -1);
        is(KIND, x.laying(0, 1, 1, 0));
        x.put(1, 5, 255);
        // The masts' own numbers told as cells.
        is(6, x.laying(0, 0, 2, -1));
        int[][] bad = {{16, 0, 1}, {0, 16, 1}, {-1, 0, 1}, {0, -1, 1}, {0, 0, 0}, {0, 0, 16}};
        for (int[] b : bad) {
            fillSheet(2, 32, b);
            is(KIND, x.laying(2, 1, 1, 0), x.laying(2, 1, 4, 0));
        }
        fillSheet(2, 32, 0, 0, 1, 15, 15, 15);
        is(STATE, x.laying(2, 1, 3, 0), x.laying(2, 1, 4, -1));
        is(3, x.laying(2, 1, 2, 0));
        fillSheet(2, 32, 0, 0, 1, 1);
        is(KIND, x.laying(2, 1, 1, 0));
        x.sheet(2, 32, 24);
        for (int i = 0; i < 24; i++) {
            x.put(2, i, i % 3 == 2 ? 1 + i / 3 : i / 3);
        }
        is(198, x.laying(2, 1, 4, 0));
        x.sheet(2, 32, 23);
        is(KIND, x.laying(2, 1, 1, 0));
    }

    private static void minutes() {
        promise(32);
        is(BEYOND, x.minutes(0), x.minutes(-1), x.minutes(201), x.minutes(MAX), x.minutes(MIN));
        is(0, x.count(7));
        is(1, x.minutes(1));
        is(201, x.minutes(200));
        is(401, x.minutes(200));
        is(601, x.minutes(200));
        is(801, x.minutes(200));
        is(BEYOND, x.minutes(200));
        is(1000, x.minutes(199));
        is(BEYOND, x.minutes(1));
        is(1000, x.count(7));
    }

    private static void ahead() {
        promise(33);
        is(BEYOND, x.ahead(0, 0, 0), x.ahead(0, 4, 0));
        x.town(cell(8, 8));
        is(BEYOND, x.ahead(0, 3, 0));
        is(0, x.ahead(0, 4, 0));
        scene33();
        is(BEYOND, x.ahead(-1, 0, 0), x.ahead(201, 0, 0), x.ahead(1, -1, 0), x.ahead(1, 6, 0), x.ahead(1, 0, 2), x.ahead(1, 0, -1),
            x.ahead(1, 4, 2), x.ahead(1, 5, -1), x.ahead(1, 3, MAX), x.ahead(MAX, 0, 0), x.ahead(1, MIN, 0));
        is(cell(11, 8), x.ahead(0, 0, 1));
        is(0, x.ahead(0, 1, 0), x.ahead(0, 3, 1), x.ahead(0, 4, 0), x.ahead(0, 5, 0));
        is(4, x.ahead(0, 2, 1), x.ahead(1, 2, 1));
        is(10, x.ahead(1, 1, 0));
        is(20, x.ahead(2, 1, 0));
        is(0, x.ahead(3, 2, 1));
        is(2, x.ahead(3, 3, 1));
        is(1, x.ahead(9, 3, 0));
        is(cell(8, 8), x.ahead(200, 0, 0));
        is(1, x.ahead(1, 4, 0));
        is(2, x.ahead(2, 4, 0), x.ahead(3, 4, 0), x.ahead(200, 4, 0));
        is(0, x.ahead(200, 5, 0));
        is(0, x.count(7), x.townIs(0, 2), x.flyerIs(0, 2));
        is(4, x.flyerIs(1, 5));
        is(5, x.minutes(5));
        is(2, x.townIs(0, 2));
        rule("0", 0, 0);
        x.flyer(1, cell(9, 8), 0, 4);
        is(12, x.ahead(3, 5, 1));
        is(0, x.townIs(1, 3));
        for (int i = 0; i < 4; i++) {
            x.minutes(200);
        }
        x.minutes(190);
        is(BEYOND, x.ahead(6, 0, 0));
        for (int i = 0; i < 4; i++) {
            x.town(0);
        }
        is(0, x.ahead(1, 5, 4), x.ahead(1, 4, 5));
        is(0, x.ahead(5, 3, 2), x.ahead(0, 3, 2));
    }

    /** Towns at (10, 8) and (9, 8), a flight from (8, 8) that is sent after a raid at (11, 8). */
    private static void scene33() {
        scene(50, 9, 30, 4);
        x.town(cell(10, 8));
        x.town(cell(9, 8));
        x.send(0, 1);
    }

    private static void traced(int... bodies) {
        is(bodies.length, x.count(9));
        for (int i = 0; i < bodies.length; i++) {
            is(bodies[i], x.trace(i));
        }
        is(NONE, x.trace(bodies.length), x.trace(-1), x.trace(MAX), x.trace(MIN));
    }

    private static void voices() {
        promise(34);
        is(BEYOND, x.voice(0, 0, 0));
        x.field(0);
        // Number n, many w: FLYER 0, 3; RAID 1, 4; SPOOF 2, 5; FRIEND 3, 6; FLIGHT 4, 7; PATROL 5, 8.
        for (int k = 0; k < 4; k++) {
            x.flyer(k, 0, 0, k + 3);
        }
        x.flight(0, 0, 0, 7, false);
        x.flight(0, 0, 0, 8, true);
        is(BEYOND, x.voice(6, 0, 0), x.voice(-1, 0, 0), x.voice(0, -1, 0), x.voice(0, 4, 0), x.voice(MAX, 0, 0), x.voice(0, MIN, 0));
        is(0, x.count(9));
        int[][] worth = {
            {100, 200, 197, 198},
            {101, 206, 202, -204},
            {510, 1025, 1030, -1045},
            {103, 206, 103 ^ 200, (103 ^ 200) + 4},
            {103, 206, 103 ^ 199, (103 ^ 199) + 4 + (7 ^ 7)},
            {104, 104, 0, 0}};
        int burn5 = (104 ^ 104 - 8) * 3;
        worth[5][2] = burn5;
        worth[5][3] = burn5 + 5 + (9 ^ 1) * 3;
        for (int f = 0; f < 6; f++) {
            for (int act = 0; act < 4; act++) {
                is(worth[f][act], x.voice(f, act, 100));
            }
        }
        promise = 35;
        x.voice(0, 3, 5);
        traced(13, 12, 11, 10, 10);
        x.voice(1, 3, 5);
        traced(21, 13, 12, 20, 11, 10, 10);
        x.voice(2, 3, 5);
        traced(21, 13, 31, 12, 20, 11, 30, 10, 30, 10);
        x.voice(3, 3, 5);
        traced(13, 40, 10, 12, 11, 10, 10);
        x.voice(4, 3, 5);
        traced(51, 13, 40, 50, 10, 12, 11, 50, 10, 50, 10, 40, 50, 10, 12, 11, 50, 10);
        x.voice(5, 2, 5);
        traced(61, 40, 50, 10, 12, 60, 11, 50, 10, 50, 10);
        x.voice(5, 0, 5);
        traced(50, 10);
        is(BEYOND, x.voice(5, 4, 5));
        traced(50, 10);
        promise(34);
        x.flyer(1, 0, 0, 9);
        is(-2 + 9, x.voice(0, 1, MAX));
        is(MIN, x.voice(0, 0, MIN));
        is(BEYOND, x.voice(0, 0, BEYOND));
        is(0, x.found(1));
        x.flyer(0, 0, 0, 9);
        is(MIN, x.voice(1, 0, MAX));
    }

    private static void sheets() {
        promise(36);
        is(BEYOND, x.sheet(-1, 8, 5), x.sheet(4, 8, 5), x.sheet(0, 1, 5), x.sheet(0, -8, 5), x.sheet(0, 64, 5), x.sheet(0, 24, 5));
        is(BEYOND, x.sheet(4, 8, -1), x.sheet(0, 7, -1), x.sheet(4, 0, 0), x.sheet(MAX, 8, 5));
        is(STATE, x.sheet(0, 8, -1), x.sheet(0, 32, MIN));
        is(BEYOND, x.sheet(0, 8, 25), x.sheet(0, 16, MAX));
        is(NONE, x.put(0, 0, 1));
        is(1, x.sheet(0, 8, 24), x.sheet(1, 16, 0), x.sheet(2, 32, 1), x.sheet(3, 0, -7), x.sheet(3, 0, 99));
        is(1, x.put(0, 23, 1));
        is(BEYOND, x.put(1, 0, 1), x.put(2, 1, 1), x.put(0, 24, 1));
        is(NONE, x.put(3, 0, 1));
        is(1, x.sheet(0, 0, MAX));
        is(NONE, x.put(0, 0, 1));
        // A new one holds zeros, whatever stood there.
        x.mast(0, 9);
        fillSheet(0, 16, 3, 9);
        is(1, x.plots(0));
        x.sheet(0, 16, 2);
        is(BEYOND, x.plots(0));
        promise(37);
        is(BEYOND, x.put(-1, 0, 0), x.put(4, 0, 0), x.put(MIN, 0, 0));
        is(NONE, x.put(0, 0, 0), x.put(0, -1, 0), x.put(0, 99, 0));
        x.sheet(0, 8, 2);
        x.sheet(1, 16, 2);
        x.sheet(2, 32, 2);
        is(BEYOND, x.put(0, 2, 0), x.put(0, -1, 0), x.put(0, MAX, 0), x.put(0, MIN, 0));
        x.mast(100, 15);
        // Lowest bits, with their sign: 8 bits of 256 + 5 are 5, of 255 are -1.
        x.put(0, 0, 261);
        x.put(0, 1, 258);
        is(1, x.plots(0));
        is(5, x.plotIs(0, 0));
        is(2, x.plotIs(0, 1));
        x.put(0, 0, 255);
        is(0, x.plots(0));
        x.put(0, 0, 127);
        is(1, x.plots(0));
        x.put(0, 0, 128);
        is(BEYOND, x.plots(0));
        x.put(1, 0, 65536 + 200);
        x.put(1, 1, 3);
        is(1, x.plots(1));
        is(200, x.plotIs(2, 0));
        x.put(1, 0, 65535);
        is(0, x.plots(1));
        x.put(1, 0, 255);
        is(1, x.plots(1));
        x.put(2, 1, 3);
        x.put(2, 0, 65536 + 200);
        is(BEYOND, x.plots(2));
        x.put(2, 0, -1);
        is(0, x.plots(2));
    }

    /** A number 0 .. 6 of a sheet: as a need of pilots it asks for the same set as the number it is. */
    private static int held(int sheet, int i) {
        x.sheet(3, 8, 1);
        x.move(sheet, i, 3, 0, 1);
        for (int v = 0; v < 7; v++) {
            x.sheet(2, 8, 1);
            x.put(2, 0, v);
            if (x.pilots(2, 0) == x.pilots(3, 0)) {
                return v;
            }
        }
        return -1;
    }

    private static void moves() {
        promise(38);
        is(BEYOND, x.move(-1, 0, 0, 0, 0), x.move(0, 0, 4, 0, 0), x.move(4, 0, 0, 0, 0), x.move(0, 0, -1, 0, 0));
        is(NONE, x.move(0, 0, 1, 0, 0), x.move(0, -1, 1, 0, 0));
        x.sheet(0, 8, 5);
        is(NONE, x.move(0, 0, 1, 0, 0), x.move(1, 0, 0, 0, 0));
        is(BEYOND, x.move(0, 0, 4, 0, 0));
        x.sheet(1, 16, 5);
        is(KIND, x.move(0, 0, 1, 0, 0), x.move(0, -1, 1, 0, 99), x.move(1, 0, 0, 0, 1));
        x.sheet(1, 8, 3);
        is(BEYOND, x.move(0, 0, 1, 0, -1), x.move(0, -1, 1, 0, 1), x.move(0, 0, 1, -1, 1), x.move(0, 5, 1, 0, 1),
            x.move(0, 0, 1, 3, 1), x.move(0, 0, 1, 0, 4), x.move(0, 6, 1, 0, 0), x.move(0, 0, 1, 4, 0), x.move(0, MAX, 1, 0, 1),
            x.move(0, 1, 1, 1, MAX), x.move(0, MAX, 1, MAX, MAX), x.move(0, 0, 1, 0, MIN), x.move(0, 4, 0, 0, 2), x.move(0, 0, 0, 4, 2));
        is(0, x.move(0, 5, 1, 3, 0), x.move(0, 0, 0, 0, 0));
        fillSheet(0, 8, 1, 2, 3, 4, 5);
        is(3, x.move(0, 2, 1, 0, 3));
        is(3, held(1, 0));
        is(4, held(1, 1));
        is(5, held(1, 2));
        is(4, x.move(0, 0, 0, 1, 4));
        int[] up = {1, 1, 2, 3, 4};
        for (int i = 0; i < 5; i++) {
            is(up[i], held(0, i));
        }
        fillSheet(0, 8, 1, 2, 3, 4, 5);
        is(4, x.move(0, 1, 0, 0, 4));
        int[] down = {2, 3, 4, 5, 5};
        for (int i = 0; i < 5; i++) {
            is(down[i], held(0, i));
        }
        is(5, x.move(0, 0, 0, 0, 5));
        is(2, held(0, 0));
    }

    private static void images() {
        promise(40);
        is(NONE, x.restore(), x.restore());
        promise = 39;
        x.minutes(3);
        x.mast(cell(4, 4), 5);
        x.post(cell(12, 12), 5);
        x.set(0, 2);
        x.set(1, 3);
        x.plot(cell(4, 4), 2);
        x.field(cell(8, 8));
        x.town(cell(10, 8));
        x.flight(0, 50, 9, 1, false);
        x.flyer(1, cell(12, 8), 0, 5);
        x.flyer(3, cell(12, 0), 0, 5);
        x.send(0, 1);
        x.minutes(1);
        rule("1", 0, 0);
        x.feed('7', 1);
        x.tell(1);
        x.sheet(0, 8, 1);
        is(1, x.image());
        int[] were = new int[16];
        for (int i = 0; i < 16; i++) {
            were[i] = x.count(i);
        }
        x.minutes(9);
        x.mast(cell(10, 4), 5);
        x.jam(0, true);
        x.post(cell(1, 12), 5);
        x.set(0, 5);
        x.set(1, 7);
        x.jam(0, false);
        x.plot(cell(4, 5), 2);
        x.field(cell(8, 9));
        x.town(cell(10, 9));
        x.flyer(0, 0, 0, 5);
        x.answer(2, true);
        x.feed('+', 1);
        x.feed('3', 1);
        x.rule(1, 0);
        x.feed('9', 1);
        x.tell(5);
        x.sheet(0, 32, 3);
        x.sheet(1, 16, 3);
        x.voice(1, 0, 0);
        x.found(7);
        int findings = x.found(1);
        promise = 40;
        is(4, x.restore());
        for (int i = 0; i < 16; i++) {
            is(i == 9 ? 1 : were[i], x.count(i));
        }
        is(10, x.trace(0));
        is(findings, x.found(1));
        is(1, x.put(0, 2, 5), x.put(1, 2, 5));
        is(2, x.set(0, 2));
        is(3, x.set(1, 3));
        is(0, x.flyerIs(2, 10), x.flyerIs(0, 6));
        is(1, x.flyerIs(0, 9), x.watched(cell(4, 4)));
        is(48 + 1, x.flyerIs(0, 7));
        is(5, x.flyerIs(1, 5));
        is(0, x.check());
        is(NONE, x.force(1, 1000));
        x.feed('+', 1);
        x.feed('8', 1);
        is(1, x.rule(2, 0));
        is(15, x.says(1, 0, 0, 0, 0));
        // The image stays; another takes its place; how often is not taken back.
        is(4, x.restore());
        is(1, x.count(10), x.count(8));
        x.minutes(5);
        promise = 39;
        is(2, x.image());
        x.minutes(5);
        is(9, x.restore());
        is(3, x.image());
    }

    private static void told() {
        promise(41);
        for (int i = 1; i <= 20; i++) {
            is(i, x.tell(i * 1000));
        }
        is(FULL, x.tell(0), x.tell(1));
        is(20, x.count(10));
        promise(42);
        is(0, x.check());
        x.tell(0);
        is(1, x.check());
        is(0, x.check(), x.count(10));
        x.flyer(0, 0, 0, 4);
        x.flyer(1, 0, 0, 7);
        x.tell(4);
        is(0, x.check());
        x.tell(4);
        x.tell(7);
        is(0, x.check());
        x.tell(4);
        x.tell(4);
        is(2, x.check());
        x.tell(7);
        x.tell(7);
        is(1, x.check());
        x.tell(4);
        x.tell(7);
        x.tell(0);
        is(3, x.check());
        is(0, x.count(10));
        for (int i = 0; i < 20; i++) {
            x.tell(4);
        }
        is(2, x.check());
        is(1, x.tell(4));
    }

    private static void counts() {
        promise(43);
        is(BEYOND, x.count(-1), x.count(16), x.count(MAX), x.count(MIN));
        x.mast(cell(0, 0), 1);
        is(3, x.count(15));
        x.mast(cell(15, 15), 2);
        is(9, x.count(15));
        x.mast(cell(15, 15), 1);
        is(9, x.count(15));
        x.jam(1, true);
        is(6, x.count(15));
        is(3, x.count(0));
        x.post(0, 0);
        is(1, x.count(1));
        x.plot(0, 1);
        x.plot(0, 1);
        is(2, x.count(2));
        for (int i = 0; i < 3; i++) {
            x.field(0);
        }
        is(3, x.count(3));
        for (int i = 0; i < 4; i++) {
            x.town(0);
        }
        is(4, x.count(4));
        x.flyer(1, 0, 3000, 1);
        x.flyer(2, 0, 3400, 1);
        x.flyer(0, 0, 0, 1);
        x.flyer(3, 0, 0, 1);
        x.flight(0, 9, 9, 1, true);
        x.flight(0, 9, 9, 1, false);
        is(6, x.count(5));
        is(2, x.count(11), x.count(12));
        x.send(4, 2);
        is(1, x.count(12));
        rule("1", 0, 0);
        is(1, x.count(6));
        x.minutes(2);
        is(2, x.count(7));
        is(1, x.count(11));
        is(8, x.count(13));
        is(0, x.count(14));
        x.feed(0, 5);
        is(5, x.count(8));
        x.voice(2, 1, 1);
        is(2, x.count(9));
        x.tell(1);
        is(1, x.count(10));
        promise(43);
        x.town(0);
        x.town(1);
        rule("0", 0, 0);
        x.flyer(1, 0, 0, 3);
        x.flyer(1, 1, 0, 4);
        x.minutes(2);
        is(14, x.count(14));
        is(0, x.count(13));
    }

    private static void found() {
        promise(44);
        is(BEYOND, x.found(0), x.found(6), x.found(-1), x.found(MAX), x.found(MIN));
        is(5, x.found(1));
        IntSupplier[] acts = {() -> x.trace(0), () -> x.plot(0, 1), () -> x.sheet(0, 8, 1), () -> x.plots(0)};
        int[] answers = {NONE, STATE, 1, KIND};
        for (int i = 0; i < acts.length; i++) {
            is(answers[i], acts[i].getAsInt());
        }
        is(5, x.found(1));
        is(1, x.found(2), x.found(3), x.found(5));
        is(0, x.found(4));
        for (int i = 0; i < 7; i++) {
            x.field(0);
        }
        is(2, x.found(4));
        is(5, x.found(1));
        x.restore();
        is(2, x.found(2));
        x.image();
        x.trace(0);
        x.restore();
        is(3, x.found(2));
        // A number that only looks like a finding is none.
        x.flyer(0, 0, 0, 1);
        is(NONE, x.voice(0, 0, NONE));
        is(3, x.found(2));
    }
}
