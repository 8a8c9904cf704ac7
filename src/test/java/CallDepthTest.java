import java.io.PrintWriter;
import java.io.StringWriter;
import java.util.ArrayList;
import java.util.HashMap;
import java.util.List;
import java.util.Map;
import java.util.Set;
import java.util.TreeMap;
import java.util.TreeSet;
import java.util.regex.Matcher;
import java.util.regex.Pattern;
import java.util.spi.ToolProvider;

/**
 * Rules 8 and 11 of LANGUAGE.md, seen from what javap tells of the class: calls that are no recursion go at most eight
 * deep (methods that call one another in a ring count once), and the rings are those that are known.
 */
public final class CallDepthTest {
    private static final int DEEPEST = 8;
    private static final String[] RINGS = {
        "Crew.tryTasks", "Cuttings.choose", "Reader.readBoth Reader.readInner Reader.readPlain Reader.readTest",
        "Reader.readFactor Reader.readInnerSum Reader.readSum Reader.readTerm"};

    private static final Pattern CLASS = Pattern.compile("(?:\\w+ )*class CutFloor(?:\\$(\\w+))?\\b.*");
    private static final Pattern HEAD = Pattern.compile(" {2}[^ ].*?([\\w$]+)\\(.*\\);");
    private static final Pattern CALL = Pattern.compile(".*: invoke\\w+ .*// (?:Interface)?Method (?:([\\w/$]+)\\.)?\"?([\\w<>]+)\"?:.*");

    /** By method the methods of the class that it calls. */
    private final Map<String, Set<String>> calls = new TreeMap<>();
    private final Map<String, Set<String>> reached = new HashMap<>();
    private final Map<String, Integer> depths = new HashMap<>();

    private static String disassembled() {
        List<String> args = new ArrayList<>(List.of("-p", "-c", "-cp", System.getProperty("java.class.path"), "CutFloor"));
        for (Class<?> c : CutFloor.class.getDeclaredClasses()) args.add(c.getName());
        StringWriter told = new StringWriter();
        PrintWriter out = new PrintWriter(told);
        int failed = ToolProvider.findFirst("javap").orElseThrow().run(out, out, args.toArray(new String[0]));
        if (failed != 0) throw new IllegalStateException(told.toString());
        return told.toString();
    }

    private void read(String told) {
        String at = "CutFloor";
        Set<String> from = new TreeSet<>();
        for (String line : told.split("\n")) {
            Matcher cls = CLASS.matcher(line);
            Matcher head = HEAD.matcher(line);
            Matcher call = CALL.matcher(line);
            if (cls.matches()) {
                at = cls.group(1) == null ? "CutFloor" : cls.group(1);
            } else if (head.matches()) {
                boolean made = head.group(1).startsWith("CutFloor");
                from = calls.computeIfAbsent(at + "." + (made ? "<init>" : head.group(1)), k -> new TreeSet<>());
            } else if (call.matches()) {
                String owner = call.group(1) == null ? at : call.group(1).replace("CutFloor$", "");
                if (!owner.startsWith("java/")) from.add(owner + "." + call.group(2));
            }
        }
    }

    private Set<String> reachedFrom(String method) {
        Set<String> known = reached.get(method);
        if (known != null) return known;
        Set<String> all = new TreeSet<>();
        List<String> open = new ArrayList<>(List.of(method));
        for (int i = 0; i < open.size(); i++) {
            for (String next : calls.getOrDefault(open.get(i), Set.of())) if (all.add(next)) open.add(next);
        }
        reached.put(method, all);
        return all;
    }

    /** The method alone, or all that call one another with it. */
    private Set<String> ringOf(String method) {
        Set<String> ring = new TreeSet<>(Set.of(method));
        for (String other : reachedFrom(method)) if (reachedFrom(other).contains(method)) ring.add(other);
        return ring;
    }

    private int depthOf(String method) {
        Integer known = depths.get(method);
        if (known != null) return known;
        int deepest = 0;
        Set<String> ring = ringOf(method);
        for (String one : ring) {
            for (String next : calls.getOrDefault(one, Set.of())) {
                if (!ring.contains(next)) deepest = Math.max(deepest, depthOf(next));
            }
        }
        depths.put(method, deepest + 1);
        return deepest + 1;
    }

    public static void main(String[] args) {
        CallDepthTest test = new CallDepthTest();
        test.read(disassembled());
        boolean good = test.calls.size() > 100 && test.depthOf("CutFloor.best") > 5;
        if (!good) System.out.println("too little was read: " + test.calls);
        Set<String> rings = new TreeSet<>();
        int deepest = 0;
        for (String method : test.calls.keySet()) {
            int depth = test.depthOf(method);
            deepest = Math.max(deepest, depth);
            if (depth > DEEPEST) {
                good = false;
                System.out.println(method + " goes " + depth + " deep");
            }
            if (test.reachedFrom(method).contains(method)) rings.add(String.join(" ", test.ringOf(method)));
        }
        if (!rings.equals(new TreeSet<>(List.of(RINGS)))) {
            good = false;
            System.out.println("methods that call one another: " + rings);
        }
        System.out.println(test.calls.size() + " methods, calls go " + deepest + " deep");
        if (!good) System.exit(1);
    }
}
