/** Long runs of calls of all kinds: the room answers what the model answers. */
public final class RandomRunsTest {
    // How often land, plots, flyers, rules, plans, passing, others, sheets of plots come up.
    private static final int[][] ABOUT = {
        {6, 6, 8, 4, 4, 6, 6, 1},
        {4, 14, 1, 0, 0, 3, 2, 2},
        {2, 0, 14, 2, 2, 12, 2, 0},
        {1, 0, 8, 12, 2, 8, 2, 0},
        {2, 0, 10, 2, 14, 4, 3, 0},
        {1, 1, 2, 1, 2, 1, 20, 1},
    };

    public static void main(String[] args) {
        int runs = args.length > 0 ? Integer.parseInt(args[0]) : 3000;
        long calls = 0;
        for (int run = 0; run < runs; run++) {
            Caller caller = new Caller(run);
            int[] weights = ABOUT[run % ABOUT.length];
            begin(caller, run);
            while (caller.calls < 500 && caller.wrong == null) {
                caller.act(weights);
            }
            caller.lookAll();
            calls += caller.calls;
            if (caller.wrong != null) {
                System.out.println("run " + run + ":\n  " + caller.wrong);
                System.exit(1);
            }
        }
        System.out.println(runs + " runs, " + calls + " calls: all answers are those of the model");
    }

    private static void begin(Caller c, int run) {
        if (run % 7 == 6) {
            return;
        }
        if (run % 2 == 1) {
            // So that flyer 0 is one that flights are sent after.
            int told = 1000 * (run / 2 % 2) + 100 * (run / 4 % 8) + run % 30;
            c.same("flyer(1, 120, " + told + ", 7)", c.room.flyer(1, 120, told, 7), c.model.flyer(1, 120, told, 7));
        }
        c.same("mast(136, 9)", c.room.mast(136, 9), c.model.mast(136, 9));
        c.same("field(119)", c.room.field(119), c.model.field(119));
        c.same("town(136)", c.room.town(136), c.model.town(136));
        if (run % 3 == 0) {
            for (int i = 0; i < 5; i++) {
                c.same("flight(0, 40, " + i + ", 2, false)", c.room.flight(0, 40, i, 2, false), c.model.flight(0, 40, i, 2, false));
            }
        }
    }
}
