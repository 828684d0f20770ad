import java.io.PrintWriter;
import java.io.StringWriter;
import java.net.URISyntaxException;
import java.nio.file.Path;
import java.util.ArrayList;
import java.util.Arrays;
import java.util.Collections;
import java.util.LinkedHashMap;
import java.util.LinkedHashSet;
import java.util.List;
import java.util.Map;
import java.util.Set;
import java.util.regex.Matcher;
import java.util.regex.Pattern;
import java.util.spi.ToolProvider;

/** Who calls whom, read off the compiled classes: calls that are no recursion go eight deep at most (rule 11). */
public final class CallsTest {
    private static final Pattern METHOD = Pattern.compile("^  \\S.*?([\\w$]+)\\([^)]*\\);$");
    private static final Pattern CALL = Pattern.compile("invoke\\w+ .*// Method ([^:]+):");

    private static final Map<String, Set<String>> calls = new LinkedHashMap<>();
    private static final Map<String, Set<String>> reached = new LinkedHashMap<>();

    public static void main(String[] args) throws URISyntaxException {
        Due due = new Due("CallsTest");
        read(RaidRoom.class);
        for (Class<?> c : RaidRoom.class.getDeclaredClasses()) {
            read(c);
        }
        due.holds("methods were read: " + calls.size(), calls.size() > 150);
        for (String m : calls.keySet()) {
            reached.put(m, reach(m));
        }
        for (String m : calls.keySet()) {
            List<String> deepest = deepest(m);
            due.holds(deepest + " is eight deep at most", deepest.size() <= 8);
        }
        due.holds("recursion only in texts and voices", calls.keySet().stream().filter(m -> reached.get(m).contains(m))
            .allMatch(m -> m.startsWith("RaidRoom$Text.") || m.startsWith("RaidRoom$Voices.")));
        due.end();
    }

    private static void read(Class<?> c) throws URISyntaxException {
        StringWriter out = new StringWriter();
        Path file = Path.of(c.getProtectionDomain().getCodeSource().getLocation().toURI()).resolve(c.getName() + ".class");
        ToolProvider.findFirst("javap").orElseThrow().run(new PrintWriter(out), new PrintWriter(out), "-c", "-p", file.toString());
        String method = "";
        for (String line : out.toString().split("\n")) {
            Matcher m = METHOD.matcher(line);
            if (m.find()) {
                String name = m.group(1);
                method = c.getName() + "." + (c.getName().endsWith(name) ? "\"<init>\"" : name);
                calls.putIfAbsent(method, new LinkedHashSet<>());
            }
            Matcher call = CALL.matcher(line);
            if (call.find()) {
                String to = call.group(1);
                calls.get(method).add(to.contains(".") ? to : c.getName() + "." + to);
            }
        }
    }

    private static Set<String> reach(String from) {
        Set<String> all = new LinkedHashSet<>();
        List<String> open = new ArrayList<>(calls.get(from));
        while (!open.isEmpty()) {
            String m = open.remove(open.size() - 1);
            if (all.add(m)) {
                open.addAll(calls.getOrDefault(m, Collections.emptySet()));
            }
        }
        return all;
    }

    private static final Map<String, List<String>> known = new LinkedHashMap<>();

    /** The longest chain of calls from a method on; those that call one another count once. */
    private static List<String> deepest(String from) {
        List<String> chain = known.get(from);
        if (chain != null) {
            return chain;
        }
        Set<String> together = new LinkedHashSet<>(Arrays.asList(from));
        for (String m : reached.getOrDefault(from, Collections.emptySet())) {
            if (reached.containsKey(m) && reached.get(m).contains(from)) {
                together.add(m);
            }
        }
        List<String> longest = new ArrayList<>();
        for (String one : together) {
            for (String to : calls.getOrDefault(one, Collections.emptySet())) {
                if (!together.contains(to) && deepest(to).size() > longest.size()) {
                    longest = deepest(to);
                }
            }
        }
        chain = new ArrayList<>(Arrays.asList(from));
        chain.addAll(longest);
        known.put(from, chain);
        return chain;
    }
}
