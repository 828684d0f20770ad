import java.lang.reflect.Constructor;
import java.lang.reflect.InvocationTargetException;
import java.lang.reflect.Method;
import java.util.ArrayList;
import java.util.Arrays;
import java.util.List;
import java.util.function.IntSupplier;

/**
 * Tests of boundaries, one for each sentence that names one: every method whose name begins with "promise" and the promise's
 * number is a test, run on a new room.
 */
abstract class Edges {
    static final int BEYOND = -1000001;
    static final int NONE = -1000002;
    static final int STATE = -1000003;
    static final int FULL = -1000004;
    static final int KIND = -1000005;
    static final int MIN = Integer.MIN_VALUE;
    static final int MAX = Integer.MAX_VALUE;

    private static final int MOST_CALLS = 512;

    static final int UP = 0;
    static final int DOWN = 1;
    static final int GONE = 2;

    RaidRoom x = new RaidRoom();
    private final List<String> wrong = new ArrayList<>();
    private int answers = 0;
    private int calls = 0;

    /** Runs the tests of a class, tells each by its name, and fails if one fails or a promise from .. to has none. */
    static void runAll(Class<? extends Edges> tests, int from, int to) {
        Method[] methods = tests.getDeclaredMethods();
        Arrays.sort(methods, (a, b) -> a.getName().compareTo(b.getName()));
        int[] ran = new int[45];
        int failed = 0;
        for (Method method : methods) {
            if (method.getName().startsWith("promise")) {
                ran[Integer.parseInt(method.getName().substring(7, 9))]++;
                failed += passes(tests, method) ? 0 : 1;
            }
        }
        for (int promise = from; promise <= to; promise++) {
            if (ran[promise] == 0) {
                System.out.println("no test of promise " + promise);
                failed++;
            }
        }
        System.out.println(tests.getName() + ": " + Arrays.stream(ran).sum() + " tests, " + failed + " failed");
        if (failed > 0) {
            System.exit(1);
        }
    }

    private static boolean passes(Class<? extends Edges> tests, Method method) {
        Edges test;
        try {
            Constructor<? extends Edges> make = tests.getDeclaredConstructor();
            test = make.newInstance();
            method.invoke(test);
            if (test.answers == 0) {
                test.wrong.add("nothing was asked");
            }
            if (test.calls > MOST_CALLS) {
                test.wrong.add(test.calls + " calls: what the last ones answer is free");
            }
        } catch (InvocationTargetException e) {
            System.out.println("  FAILED " + method.getName() + ": " + e.getCause());
            return false;
        } catch (ReflectiveOperationException e) {
            throw new IllegalStateException(e);
        }
        System.out.println((test.wrong.isEmpty() ? "  " : "  FAILED ") + method.getName());
        test.wrong.forEach(w -> System.out.println("    " + w));
        return test.wrong.isEmpty();
    }

    /** Answers that are due, each the same. */
    final void is(int want, int... got) {
        calls += got.length;
        for (int g : got) {
            answers++;
            if (g != want) {
                wrong.add("answer " + answers + " is " + g + ", due is " + want);
            }
        }
    }

    /** Answers that are due, one by one. */
    final void are(int[] want, int... got) {
        is(want.length, got.length);
        for (int i = 0; i < Math.min(want.length, got.length); i++) {
            is(want[i], got[i]);
        }
    }

    static int[] row(int... numbers) {
        return numbers;
    }

    /** Acts that answer a finding: found() counts each, nothing else that can be seen is another. */
    final void refused(int finding, IntSupplier... acts) {
        int[] before = seen();
        int[] found = findings();
        for (IntSupplier act : acts) {
            is(finding, act.getAsInt());
        }
        found[BEYOND - finding] += acts.length;
        are(found, findings());
        are(before, seen());
        // are() has counted one of the two looks, and the lengths as if they were answers.
        calls += before.length + found.length - 2;
    }

    private int[] findings() {
        return row(x.found(1), x.found(2), x.found(3), x.found(4), x.found(5));
    }

    /** What can be looked at without a change, but for what found() tells. */
    private int[] seen() {
        List<Integer> all = new ArrayList<>();
        for (int what = 0; what < 16; what++) {
            all.add(x.count(what));
        }
        look(all, x.count(2), 3, x::plotIs);
        look(all, x.count(5), 11, x::flyerIs);
        look(all, x.count(4), 4, x::townIs);
        for (int cell = 0; cell < 256; cell += 17) {
            all.add(x.watched(cell));
        }
        for (int i = 0; i < x.count(9); i++) {
            all.add(x.trace(i));
        }
        for (int use = 0; use < 3 && x.count(6) > 0; use++) {
            all.add(x.force(use, 1000));
        }
        return all.stream().mapToInt(i -> i).toArray();
    }

    private interface Look {
        int at(int number, int what);
    }

    private static void look(List<Integer> all, int many, int whats, Look look) {
        for (int i = 0; i < many; i++) {
            for (int what = 0; what < whats; what++) {
                all.add(look.at(i, what));
            }
        }
    }

    // ---- what many tests do

    static int cell(int cx, int cy) {
        return 16 * cy + cx;
    }

    /** How flyer() is told pace, way and height. */
    static int told(int pace, int way, int height) {
        return 1000 * pace + 100 * way + height;
    }

    /** A mast that sees all of the land. */
    final int seeAll() {
        return x.mast(cell(8, 8), 15);
    }

    final void fillSheet(int sheet, int bits, int... numbers) {
        calls += 1 + numbers.length;
        x.sheet(sheet, bits, numbers.length);
        for (int i = 0; i < numbers.length; i++) {
            x.put(sheet, i, numbers[i]);
        }
    }

    final void feed(String text) {
        calls += text.length();
        for (int i = 0; i < text.length(); i++) {
            x.feed(text.charAt(i), 1);
        }
    }

    final int rule(String text, int use, int from) {
        feed(text);
        return x.rule(use, from);
    }

    /** So many minutes end, more than one call takes if need be. */
    final void pass(int minutes) {
        for (int left = minutes; left > 0; left -= 200) {
            x.minutes(Math.min(left, 200));
        }
    }

    final void again(int times, IntSupplier act) {
        calls += times;
        for (int i = 0; i < times; i++) {
            act.getAsInt();
        }
    }
}
