import java.io.IOException;
import java.lang.reflect.Method;
import java.nio.file.Files;
import java.nio.file.Path;
import java.util.regex.Matcher;
import java.util.regex.Pattern;

/** The calls that README.md shows, made in their order on one room, answer what it says there. */
public final class ReadmeTest {
    private static final Pattern CALL = Pattern.compile("(?m)^ {4}room\\.((\\w+)\\(([^)]*)\\)); +// (-?\\d+)(:|$)");

    public static void main(String[] args) throws IOException, ReflectiveOperationException {
        Due due = new Due("ReadmeTest");
        RaidRoom room = new RaidRoom();
        String readme = Files.readString(Path.of("README.md"));
        Matcher call = CALL.matcher(readme);
        int calls = 0;
        while (call.find()) {
            calls++;
            due.is(call.group(1), answer(room, call.group(2), call.group(3).split(", ")), Long.parseLong(call.group(4)));
        }
        due.is("calls that README.md shows", calls, readme.lines().filter(line -> line.startsWith("    room.")).count());
        due.holds("README.md shows calls", calls > 0);
        due.end();
    }

    private static int answer(RaidRoom room, String name, String[] told) throws ReflectiveOperationException {
        for (Method method : RaidRoom.class.getMethods()) {
            if (method.getName().equals(name)) {
                Class<?>[] kinds = method.getParameterTypes();
                Object[] all = new Object[kinds.length];
                for (int i = 0; i < kinds.length; i++) {
                    all[i] = read(kinds[i], told[i]);
                }
                return (Integer) method.invoke(room, all);
            }
        }
        throw new NoSuchMethodException(name);
    }

    private static Object read(Class<?> kind, String told) {
        if (kind == boolean.class) {
            return Boolean.valueOf(told);
        }
        return kind == long.class ? (Object) Long.decode(told) : Integer.decode(told);
    }
}
