import com.sun.management.ThreadMXBean;
import java.lang.management.ManagementFactory;

/** All calls of one run live in one room: none makes an object, and none throws, whatever it is told. */
public final class HeapTest {
    private static final int[] ODD = {0, 1, -1, 2, 3, 5, 7, 8, 9, 15, 16, 24, 31, 32, 33, 60, 63, 64, 99, 100, 200, 255, 256, 511,
        1000, 1001, 3799, 65535, -1000001, Integer.MAX_VALUE, Integer.MIN_VALUE, Integer.MIN_VALUE + 1, Integer.MAX_VALUE - 1};

    public static void main(String[] args) {
        Due due = new Due("HeapTest");
        for (int seed = 0; seed < 300; seed++) {
            try {
                wild(new Dice(seed));
            } catch (RuntimeException | StackOverflowError e) {
                e.printStackTrace(System.out);
                due.is("a wild run " + seed + " that throws", 1, 0);
            }
        }
        measured(17, 4000);
        // What asking for the bytes makes is in both.
        due.holds("4000 calls make no objects", measured(99, 4000) - measured(99, 0) < 4000);
        due.holds("one room is small", roomBytes() < 200000);
        due.end();
    }

    private static long bytes() {
        return ((ThreadMXBean) ManagementFactory.getThreadMXBean()).getThreadAllocatedBytes(Thread.currentThread().getId());
    }

    private static long roomBytes() {
        long before = bytes();
        RaidRoom room = new RaidRoom();
        long made = bytes() - before;
        return room.count(0) == 0 ? made : 0;
    }

    /** How many bytes a run of calls of every kind makes. */
    private static long measured(long seed, int calls) {
        RaidRoom room = new RaidRoom();
        Dice dice = new Dice(seed);
        bytes();
        long before = bytes();
        prepared(room);
        for (int i = 0; i < calls; i++) {
            call(room, i % 44, dice.below(20), dice.below(6), dice.below(30) - 2, dice.below(9), dice.below(5));
        }
        return bytes() - before;
    }

    private static void prepared(RaidRoom room) {
        room.mast(136, 15);
        room.field(0);
        for (int i = 0; i < 6; i++) {
            room.flight(0, 99, 9, 1, i % 2 == 0);
            room.flyer(1, 100 + i, 1000, 3);
            room.plot(100 + i, 2);
        }
        room.minutes(1);
        for (int i = 0; i < 6; i++) {
            room.plot(100 + i, 2);
            room.tracking(511 << i, i);
        }
        room.town(100);
        room.feed(0x393c66L, 3);
        room.rule(0, 0);
    }

    private static void wild(Dice dice) {
        RaidRoom room = new RaidRoom();
        if (!dice.once(3)) {
            prepared(room);
        }
        for (int i = 0; i < 512; i++) {
            boolean odd = dice.once(3);
            call(room, dice.below(44), some(dice, odd), some(dice, odd), some(dice, odd), some(dice, odd), some(dice, odd));
        }
    }

    private static int some(Dice dice, boolean odd) {
        return odd ? ODD[dice.below(ODD.length)] : dice.below(dice.once(2) ? 6 : 260);
    }

    private static void call(RaidRoom r, int which, int a, int b, int c, int d, int e) {
        boolean is = (e & 1) == 0;
        switch (which) {
            case 0: r.mast(a, b); break;
            case 1: r.jam(a, is); break;
            case 2: r.post(a, b); break;
            case 3: r.set(a, b); break;
            case 4: r.watched(a); break;
            case 5: r.field(a); break;
            case 6: r.town(a); break;
            case 7: r.townIs(a, b); break;
            case 8: r.plot(a, b); break;
            case 9: r.plots(b); break;
            case 10: r.plotIs(a, b); break;
            case 11: r.follows(a, b); break;
            case 12: r.tracking(a * 37 + b, c); break;
            case 13: r.judge(a * 37 + c, b); break;
            case 14: r.flyer(b, a, c * 100 + d, e); break;
            case 15: r.flight(b, a, c, d, is); break;
            case 16: r.as(a, b); break;
            case 17: r.flyerIs(a, c); break;
            case 18: r.answer(a, is); break;
            case 19: r.send(a, c); break;
            case 20: r.back(a); break;
            case 21: r.fill(a, b, c); break;
            case 22: r.feed(a * 0x9E3779B97F4A7C15L, b); break;
            case 23: r.rule(b, a); break;
            case 24: r.force(b, a); break;
            case 25: r.says(b, a, b, c, d); break;
            case 26: r.meeting(a, c); break;
            case 27: r.sending(a, c); break;
            case 28: r.pilots(b, a); break;
            case 29: r.laying(b, e, d, c); break;
            case 30: r.minutes(a); break;
            case 31: r.ahead(a, b, c); break;
            case 32: r.voice(a, b, c); break;
            case 33: r.trace(a); break;
            case 34: r.sheet(b, 8 * d, a); break;
            case 35: r.put(b, a, c); break;
            case 36: r.move(b, a, e, c, d); break;
            case 37: r.image(); break;
            case 38: r.restore(); break;
            case 39: r.tell(a); break;
            case 40: r.check(); break;
            case 41: r.count(a); break;
            case 42: r.found(a); break;
            default: r.feed(0x39 + b, 1); break;
        }
    }
}
