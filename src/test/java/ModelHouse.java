import java.math.BigInteger;
import java.util.ArrayList;
import java.util.Arrays;
import java.util.Collections;
import java.util.HashMap;
import java.util.LinkedHashMap;
import java.util.List;
import java.util.Map;
import java.util.TreeMap;
import java.util.TreeSet;
import java.util.function.Predicate;
import java.util.regex.Matcher;
import java.util.regex.Pattern;

/**
 * The document once more, over texts and maps of the library and with no thought of speed: random runs compare the
 * class with it. It shares no code with the class, and goes other ways where there are some.
 */
final class ModelHouse {
    private static final String NAME = "[a-z][a-z0-9_]{0,7}";
    private static final String PATH = "[a-z][a-z0-9_./]{0,11}";
    private static final String NUMBER = "(?:0|[1-9][0-9]{0,3})";
    private static final String INPUT = "(?:" + PATH + "|:" + NAME + ")";
    private static final String DEFINITION = NAME + "=" + NAME + "(?:\\." + NAME + ")?\\(" + INPUT + "(?:," + INPUT
            + "){0,5}\\)(?:\\?" + NAME + "=" + NUMBER + ")?";
    private static final List<Pattern> TOLD = patterns("house", "put " + PATH + " <[ -=?-~]{0,160}>", "gone " + PATH,
            "flag " + NAME + " " + NUMBER, "target " + DEFINITION, "drop " + NAME, "build " + NAME, "go " + NUMBER,
            "stop", "release " + NAME, "wish" + (" " + NUMBER).repeat(3), "need" + (" " + NUMBER).repeat(5),
            "unwish");
    private static final List<Pattern> ASKED = patterns("files", "show " + PATH, "targets", "output " + NAME,
            "face " + NAME, "why " + NAME, "runs", "work", "anew " + NAME, "needs " + NAME, "users " + PATH,
            "way " + NAME + " " + NAME, "longest " + NAME, "kept", "edition " + NAME, "rules", "solve",
            "meets(?: [-123])+", "refute", "cut " + NUMBER, "mend");
    private static final Pattern PARTS_OF_DEFINITION = Pattern.compile("(" + NAME + ")=(" + NAME + ")(?:\\.(" + NAME
            + "))?\\((.*)\\)(?:\\?(" + NAME + ")=(" + NUMBER + "))?");
    private static final String FACTOR = "(?:" + NUMBER + "|" + NAME + ")";
    private static final String TERM = FACTOR + "(?:\\*" + FACTOR + ")*";
    private static final Pattern SOURCE = Pattern.compile("(pub )?(" + NAME + ")=(" + TERM + "(?:\\+" + TERM + ")*)");
    private static final Pattern FACE = Pattern.compile("(" + NAME + ")=(" + NUMBER + ")");

    private static List<Pattern> patterns(String... texts) {
        List<Pattern> all = new ArrayList<>();
        for (String text : texts) {
            all.add(Pattern.compile(text));
        }
        return all;
    }

    /** What came of an action: why is null when it is built. */
    private record Made(String output, String face, String why, List<String> parts, String key) {
    }

    private record Released(String output, String face, int a, int b, int c) {
    }

    /** Files, flags and definitions at one time. */
    private static final class World {
        final TreeMap<String, String> files = new TreeMap<>();
        final Map<String, Integer> flags = new HashMap<>();
        final Map<String, String> targets = new HashMap<>();

        World copy() {
            World other = new World();
            other.files.putAll(files);
            other.flags.putAll(flags);
            other.targets.putAll(targets);
            return other;
        }

        Matcher definition(String name) {
            Matcher m = PARTS_OF_DEFINITION.matcher(targets.get(name));
            if (!m.matches()) {
                throw new IllegalStateException(targets.get(name));
            }
            return m;
        }

        List<String> inputs(String name) {
            return targets.containsKey(name) ? List.of(definition(name).group(4).split(",")) : List.of();
        }

        /** Names of targets that are there among the inputs. */
        List<String> below(String name) {
            List<String> all = new ArrayList<>();
            for (String input : inputs(name)) {
                if (input.startsWith(":") && targets.containsKey(input.substring(1))) {
                    all.add(input.substring(1));
                }
            }
            return all;
        }

        TreeSet<String> needs(String name) {
            TreeSet<String> all = new TreeSet<>(List.of(name));
            for (String u : below(name)) {
                all.addAll(needs(u));
            }
            return all;
        }
    }

    private final class Worker {
        String target;
        int left;
        Made made;
        String way;
    }

    /** A session; its outcomes go to a map that is given. */
    private final class Session {
        final World world;
        final List<String> needed;
        final Map<String, Made> put;
        final boolean real;
        final Map<String, Made> done = new HashMap<>();
        final List<String> runs = new ArrayList<>();
        final Worker[] workers = {new Worker(), new Worker()};
        int steps;
        boolean going = true;

        Session(World world, String name, Map<String, Made> put, boolean real) {
            this.world = world;
            this.needed = sorted(world.needs(name));
            this.put = put;
            this.real = real;
        }

        String next() {
            for (String name : needed) {
                boolean free = !done.containsKey(name) && !name.equals(workers[0].target)
                        && !name.equals(workers[1].target);
                for (String u : world.below(name)) {
                    free &= done.containsKey(u) && done.get(u).why() == null;
                }
                if (free) {
                    return name;
                }
            }
            return null;
        }

        void step() {
            for (Worker w : workers) {
                if (w.target == null) {
                    w.target = next();
                    if (w.target != null) {
                        take(w);
                    }
                }
                if (w.target != null && --w.left == 0) {
                    finish(w);
                }
            }
            steps++;
            going = workers[0].target != null || workers[1].target != null || next() != null;
        }

        void take(Worker w) {
            String ahead = failsAhead(world, w.target);
            w.left = 1;
            if (ahead != null) {
                w.way = "ahead";
                w.made = new Made("", "", ahead, List.of(), "");
                return;
            }
            List<String> seen = seen(world, w.target, put);
            List<String> parts = parts(world, w.target, seen);
            StringBuilder rows = new StringBuilder();
            for (String part : parts) {
                BigInteger n = new BigInteger(part, 16);
                for (int i = 7; i >= 0; i--) {
                    rows.append((char) n.shiftRight(8 * i).and(BigInteger.valueOf(255)).intValue());
                }
            }
            String key = digest(rows.toString());
            if (real && kept.containsKey(key)) {
                Made before = kept.get(key);
                w.way = "kept";
                w.made = new Made(before.output(), before.face(), before.why(), parts, key);
                return;
            }
            int bytes = 0;
            for (String s : seen) {
                bytes += s.length();
            }
            w.left = 2 + (int) Math.ceil(bytes / 10.0);
            w.way = "worked";
            w.made = work(world, w.target, seen, parts, key);
            if (real) {
                reasons.put(w.target, reason(put.get(w.target), parts));
            }
            runs.add(w.target);
        }

        void finish(Worker w) {
            done.put(w.target, w.made);
            if (real) {
                counts.merge(w.way, 1, Integer::sum);
                if (!w.way.equals("ahead")) {
                    kept.remove(w.made.key());
                    kept.put(w.made.key(), w.made);
                    if (kept.size() > 24) {
                        kept.remove(kept.keySet().iterator().next());
                    }
                }
            }
            if (w.made.why() == null) {
                put.put(w.target, w.made);
            }
            w.target = null;
        }

        String failure() {
            for (String name : needed) {
                if (done.containsKey(name) && done.get(name).why() != null) {
                    return "failed " + name + ": " + done.get(name).why();
                }
            }
            return null;
        }
    }

    private String tape = "";
    private String latest = "";
    private final int[] book = new int[2048];
    private int used;
    private int recordAt = -1;
    private boolean shut;
    private World world;
    private List<String> names;
    private Map<String, Made> put;
    private Map<String, Released> released;
    private Map<String, String> reasons;
    private LinkedHashMap<String, Made> kept;
    private Map<String, Integer> counts;
    private Session session;
    private List<int[]> rules;

    ModelHouse() {
        forget();
    }

    private void forget() {
        world = new World();
        names = new ArrayList<>();
        put = new HashMap<>();
        released = new HashMap<>();
        reasons = new HashMap<>();
        kept = new LinkedHashMap<>();
        counts = new HashMap<>();
        session = null;
        rules = new ArrayList<>();
    }

    private List<String> sorted(Iterable<String> some) {
        List<String> all = new ArrayList<>();
        some.forEach(all::add);
        all.sort((x, y) -> names.indexOf(x) - names.indexOf(y));
        return all;
    }

    // ---- the face

    int feed(int a, int b, int c, int d, int e) {
        if (tape.length() > 3980) {
            return -1;
        }
        for (int n : new int[] {a, b, c, d, e}) {
            tape += "" + (char) (n >>> 24) + (char) (n >> 16 & 255) + (char) (n >> 8 & 255) + (char) (n & 255);
        }
        return tape.length();
    }

    int ask(int n) {
        if (n < 0 || n > tape.length()) {
            return -1;
        }
        String request = tape.substring(0, n);
        tape = "";
        latest = reply(request);
        return latest.length();
    }

    int answer(int i) {
        return i < 0 || i >= latest.length() ? -1 : latest.charAt(i);
    }

    String latest() {
        return latest;
    }

    int disproveAnswer() {
        latest = reply("disprove " + latest);
        return latest.length();
    }

    int state(int what) {
        Session s = session;
        return switch (what) {
            case 0 -> world.files.size();
            case 1 -> world.targets.size();
            case 2 -> rules.size();
            case 3 -> s != null && s.going ? 1 : 0;
            case 4 -> s == null ? 0 : s.steps;
            case 5 -> s == null ? 0 : s.needed.size();
            case 6 -> s == null ? 0 : s.done.size();
            case 7 -> kept.size();
            case 8 -> shut ? -1 : used;
            case 9 -> tape.length();
            case 10 -> latest.length();
            case 11, 12 -> s == null || s.workers[what - 11].target == null ? -1
                    : names.indexOf(s.workers[what - 11].target);
            default -> -1;
        };
    }

    int byteAt(int i) {
        return i < 0 || i >= 2048 ? -1 : book[i];
    }

    boolean poke(int i, int mask) {
        if (i < 0 || i > 2047 || mask < 1 || mask > 255) {
            return false;
        }
        book[i] ^= mask;
        shut = true;
        return true;
    }

    // ---- requests

    private static boolean fits(List<Pattern> patterns, String text, boolean begun) {
        for (Pattern p : patterns) {
            Matcher m = p.matcher(text);
            if (m.matches() || begun && m.hitEnd()) {
                return true;
            }
        }
        return false;
    }

    /** -1 when no tree can begin so; else how many signs are still wanted at least, 0 for a whole tree. */
    private static int treeWants(String text) {
        int wanted = 1;
        int i = 0;
        while (i < text.length() && wanted > 0) {
            int digits = text.charAt(i) == '?' ? 1 : text.charAt(i) == '!' ? 2 : -1;
            if (digits < 0) {
                return -1;
            }
            for (int d = 1; d <= digits; d++) {
                if (i + d >= text.length()) {
                    return 1;
                }
                if (!Character.toString(text.charAt(i + d)).matches("[0-9]")) {
                    return -1;
                }
            }
            i += 1 + digits;
            wanted += digits == 1 ? 3 : -1;
        }
        return i < text.length() ? -1 : wanted;
    }

    private static boolean isRight(String text) {
        return fits(TOLD, text, false) || fits(ASKED, text, false)
                || text.startsWith("disprove ") && treeWants(text.substring(9)) == 0;
    }

    private static boolean mayBegin(String text) {
        return fits(TOLD, text, true) || fits(ASKED, text, true) || "disprove ".startsWith(text)
                || text.startsWith("disprove ") && treeWants(text.substring(9)) >= 0;
    }

    static int firstWrong(String text) {
        if (isRight(text)) {
            return -1;
        }
        Predicate<Integer> may = k -> mayBegin(text.substring(0, k));
        int low = 0;
        int high = text.length();
        if (may.test(high)) {
            return high;
        }
        // The longest beginning that may be: it may, and one more may not.
        while (low + 1 < high) {
            int middle = (low + high) / 2;
            if (may.test(middle)) {
                low = middle;
            } else {
                high = middle;
            }
        }
        return low;
    }

    private String reply(String request) {
        int wrong = firstWrong(request);
        if (wrong >= 0) {
            return "bad " + wrong;
        }
        if (request.equals("mend")) {
            return mend();
        }
        if (request.equals("house")) {
            Arrays.fill(book, 0);
            used = 0;
            recordAt = -1;
            shut = false;
        } else if (shut) {
            return "shut";
        }
        if (!fits(TOLD, request, false)) {
            return asked(request, request.split(" "));
        }
        boolean room = request.length() <= 200 && used + request.length() + 2 <= 2048;
        String told = told(request, request.split(" ", 3), room);
        if (told.startsWith("!")) {
            return told.substring(1);
        }
        recordAt = used;
        book[used++] = request.length();
        int sum = 0;
        for (int i = 0; i < request.length(); i++) {
            book[used++] = request.charAt(i);
            sum += (i + 1) * request.charAt(i);
        }
        book[used++] = 1 + sum % 251;
        return told;
    }

    private String mend() {
        forget();
        int at = 0;
        int done = 0;
        while (at < 2048) {
            int length = book[at];
            if (length == 0 || length > 200 || at + 1 + length >= 2048) {
                break;
            }
            StringBuilder request = new StringBuilder();
            int sum = 0;
            for (int i = 1; i <= length; i++) {
                request.append((char) book[at + i]);
                sum += i * book[at + i];
            }
            String text = request.toString();
            if (book[at + length + 1] != 1 + sum % 251 || !fits(TOLD, text, false)
                    || told(text, text.split(" ", 3), true).startsWith("!")) {
                break;
            }
            at += length + 2;
            done++;
        }
        Arrays.fill(book, at, 2048, 0);
        used = at;
        recordAt = -1;
        shut = false;
        return "" + done;
    }

    /** Refusals begin with a !; what is behind "no room" of the book is looked at ahead of doing anything. */
    private String told(String request, String[] words, boolean room) {
        String no = refusal(words);
        if (no == null && !room) {
            no = "no room";
        }
        return no != null ? "!" + no : carryOut(words);
    }

    private String refusal(String[] w) {
        switch (w[0]) {
            case "put":
                return !world.files.containsKey(w[1]) && world.files.size() == 16 ? "no room" : null;
            case "gone":
                return world.files.containsKey(w[1]) ? null : "no file";
            case "flag":
                return !world.flags.containsKey(w[1]) && world.flags.size() == 6 ? "no room" : null;
            case "target":
                return refusalOfTarget(w[1]);
            case "drop":
                return world.targets.containsKey(w[1]) ? null : "no target";
            case "build":
                return !world.targets.containsKey(w[1]) ? "no target" : state(3) == 1 ? "busy" : null;
            case "go", "stop":
                return state(3) == 1 ? null : "no session";
            case "release":
                return put.containsKey(w[1]) ? null : "none";
            case "wish", "need":
                return refusalOfRule(rule(w));
            case "unwish":
                return rules.isEmpty() ? "no rule" : null;
            default:
                return null;
        }
    }

    private String refusalOfTarget(String definition) {
        Matcher m = PARTS_OF_DEFINITION.matcher(definition);
        if (!m.matches()) {
            throw new IllegalStateException(definition);
        }
        if (!List.of("join", "sort", "uniq", "upper", "grep", "count", "digest", "compile").contains(m.group(2))) {
            return "no rule";
        }
        if (m.group(2).equals("grep") == (m.group(3) == null)) {
            return "no word";
        }
        String name = m.group(1);
        if (!names.contains(name) && names.size() == 14) {
            return "no room";
        }
        World other = world.copy();
        other.targets.remove(name);
        for (String input : m.group(4).split(",")) {
            String u = input.substring(1);
            if (!input.startsWith(":")) {
                continue;
            }
            if (u.equals(name)) {
                return "circle";
            }
            if (other.targets.containsKey(u)) {
                for (String v : other.needs(u)) {
                    if (other.inputs(v).contains(":" + name)) {
                        return "circle";
                    }
                }
            }
        }
        return null;
    }

    /** P, V, Q, L, H; P is -1 for a wish. */
    private static int[] rule(String[] words) {
        String[] numbers = String.join(" ", words).split(" ");
        int[] rule = {-1, 1, 0, 0, 0};
        for (int i = 1; i < numbers.length; i++) {
            rule[5 - numbers.length + i] = Integer.parseInt(numbers[i]);
        }
        return rule;
    }

    private String refusalOfRule(int[] r) {
        if (r[0] > 4 || r[2] > 4) {
            return "no part";
        }
        for (int i : new int[] {1, 3, 4}) {
            if (r[i] < 1 || r[i] > 3) {
                return "no version";
            }
        }
        return r[3] > r[4] ? "no version" : rules.size() == 20 ? "no room" : null;
    }

    private String carryOut(String[] w) {
        switch (w[0]) {
            case "house" -> forget();
            case "put" -> world.files.put(w[1], w[2].substring(1, w[2].length() - 1).replace('|', '\n'));
            case "gone" -> world.files.remove(w[1]);
            case "flag" -> world.flags.put(w[1], Integer.parseInt(w[2]));
            case "target" -> {
                String name = w[1].substring(0, w[1].indexOf('='));
                if (!names.contains(name)) {
                    names.add(name);
                }
                world.targets.put(name, w[1]);
            }
            case "drop" -> world.targets.remove(w[1]);
            case "build" -> session = new Session(world.copy(), w[1], put, true);
            case "go" -> {
                for (int i = Integer.parseInt(w[1]); i > 0 && session.going; i--) {
                    session.step();
                }
                return session.going ? "on" : session.failure() == null ? "built" : session.failure();
            }
            case "stop" -> {
                session.going = false;
                session.workers[0].target = null;
                session.workers[1].target = null;
            }
            case "release" -> {
                return release(w[1]);
            }
            case "wish", "need" -> {
                rules.add(rule(w));
                return "rule " + (rules.size() - 1);
            }
            case "unwish" -> rules.remove(rules.size() - 1);
            default -> throw new IllegalStateException(w[0]);
        }
        return "ok";
    }

    private String release(String name) {
        Made now = put.get(name);
        Released old = released.get(name);
        Released next;
        boolean same = false;
        if (old == null) {
            next = new Released(now.output(), now.face(), 1, 0, 0);
        } else {
            TreeSet<String> before = new TreeSet<>(lines(old.face()));
            TreeSet<String> after = new TreeSet<>(lines(now.face()));
            if (!after.containsAll(before)) {
                next = new Released(now.output(), now.face(), old.a() + 1, 0, 0);
            } else if (!before.containsAll(after)) {
                next = new Released(now.output(), now.face(), old.a(), old.b() + 1, 0);
            } else if (!old.output().equals(now.output())) {
                next = new Released(now.output(), now.face(), old.a(), old.b(), old.c() + 1);
            } else {
                next = old;
                same = true;
            }
        }
        released.put(name, next);
        return (same ? "same " : "") + edition(name);
    }

    private String edition(String name) {
        Released r = released.get(name);
        return r == null ? "none" : r.a() + "." + r.b() + "." + r.c();
    }

    // ---- actions

    private static List<String> lines(String bytes) {
        List<String> all = new ArrayList<>(List.of(bytes.split("\n", -1)));
        if (all.get(all.size() - 1).isEmpty()) {
            all.remove(all.size() - 1);
        }
        return all;
    }

    private static String ended(List<String> lines) {
        StringBuilder all = new StringBuilder();
        for (String line : lines) {
            all.append(line).append('\n');
        }
        return all.toString();
    }

    private static String digest(String bytes) {
        BigInteger round = BigInteger.ONE.shiftLeft(64);
        BigInteger h = BigInteger.valueOf(-3750763034362895579L).mod(round);
        for (char c : bytes.toCharArray()) {
            h = h.xor(BigInteger.valueOf(c)).multiply(BigInteger.valueOf(1099511628211L)).mod(round);
        }
        String digits = h.toString(16);
        return "0".repeat(16 - digits.length()) + digits;
    }

    private static String failsAhead(World world, String name) {
        Matcher m = world.definition(name);
        if (m.group(5) != null
                && !world.flags.getOrDefault(m.group(5), 0).equals(Integer.valueOf(m.group(6)))) {
            return "absent";
        }
        for (String input : world.inputs(name)) {
            if (input.startsWith(":") && !world.targets.containsKey(input.substring(1))) {
                return "no target " + input.substring(1);
            }
            if (!input.startsWith(":") && !world.files.containsKey(input)) {
                return "no file " + input;
            }
        }
        return null;
    }

    private static List<String> seen(World world, String name, Map<String, Made> put) {
        boolean compile = world.definition(name).group(2).equals("compile");
        List<String> all = new ArrayList<>();
        for (String input : world.inputs(name)) {
            if (input.startsWith(":")) {
                Made made = put.get(input.substring(1));
                all.add(compile ? made.face() : made.output());
            } else {
                all.add(world.files.get(input));
            }
        }
        return all;
    }

    private static List<String> parts(World world, String name, List<String> seen) {
        Matcher m = world.definition(name);
        List<String> all = new ArrayList<>();
        all.add(digest(m.group(2) + "." + (m.group(3) == null ? "" : m.group(3))));
        List<String> inputs = world.inputs(name);
        for (int i = 0; i < inputs.size(); i++) {
            String input = inputs.get(i);
            String head = input.startsWith(":") ? "t" + input.substring(1) : "f" + input;
            all.add(digest(head + "\n" + seen.get(i)));
        }
        return all;
    }

    private static String reason(Made before, List<String> parts) {
        if (before == null) {
            return "new";
        }
        if (!before.parts().get(0).equals(parts.get(0))) {
            return "rule";
        }
        if (before.parts().size() != parts.size()) {
            return "inputs";
        }
        for (int i = 1; i < parts.size(); i++) {
            if (!before.parts().get(i).equals(parts.get(i))) {
                return "input " + (i - 1);
            }
        }
        return "lost";
    }

    private static Made work(World world, String name, List<String> seen, List<String> parts, String key) {
        Matcher m = world.definition(name);
        if (m.group(2).equals("compile")) {
            return compile(world.inputs(name), seen, parts, key);
        }
        String join = String.join("", seen);
        List<String> lines = lines(join);
        List<String> some = new ArrayList<>();
        String output = switch (m.group(2)) {
            case "join" -> join;
            case "sort" -> {
                for (String s : seen) {
                    some.addAll(lines(s));
                }
                Collections.sort(some);
                yield ended(some);
            }
            case "uniq" -> {
                for (int i = 0; i < lines.size(); i++) {
                    if (i == 0 || !lines.get(i).equals(lines.get(i - 1))) {
                        some.add(lines.get(i));
                    }
                }
                yield ended(some);
            }
            case "upper" -> join.toUpperCase(java.util.Locale.ROOT);
            case "grep" -> {
                for (String line : lines) {
                    if (line.contains(m.group(3))) {
                        some.add(line);
                    }
                }
                yield ended(some);
            }
            case "count" -> lines.size() + "\n";
            case "digest" -> digest(join) + "\n";
            default -> throw new IllegalStateException(m.group(2));
        };
        return made(output, output, parts, key);
    }

    private static Made made(String output, String face, List<String> parts, String key) {
        return output.length() > 600 ? new Made("", "", "too large", parts, key)
                : new Made(output, face, null, parts, key);
    }

    private static Made compile(List<String> inputs, List<String> seen, List<String> parts, String key) {
        Map<String, Integer> sources = new LinkedHashMap<>();
        Map<String, Integer> faces = new HashMap<>();
        StringBuilder face = new StringBuilder();
        for (int i = 0; i < inputs.size(); i++) {
            List<String> lines = lines(seen.get(i));
            for (int l = 0; l < lines.size(); l++) {
                String line = lines.get(l);
                Made bad = new Made("", "", "bad " + i + " " + l, parts, key);
                if (inputs.get(i).startsWith(":")) {
                    Matcher m = FACE.matcher(line);
                    if (!m.matches()) {
                        return bad;
                    }
                    faces.put(m.group(1), Integer.valueOf(m.group(2)));
                } else if (!line.isEmpty()) {
                    Matcher m = SOURCE.matcher(line);
                    if (!m.matches() || sources.containsKey(m.group(2))) {
                        return bad;
                    }
                    Map<String, Integer> known = new HashMap<>(faces);
                    known.putAll(sources);
                    BigInteger sum = BigInteger.ZERO;
                    for (String term : m.group(3).split("\\+")) {
                        BigInteger product = BigInteger.ONE;
                        for (String factor : term.split("\\*")) {
                            if (!factor.matches(NUMBER) && !known.containsKey(factor)) {
                                return bad;
                            }
                            product = product.multiply(factor.matches(NUMBER) ? new BigInteger(factor)
                                    : BigInteger.valueOf(known.get(factor)));
                        }
                        sum = sum.add(product);
                    }
                    int value = sum.mod(BigInteger.valueOf(10000)).intValue();
                    sources.put(m.group(2), value);
                    if (m.group(1) != null) {
                        face.append(m.group(2)).append('=').append(value).append('\n');
                    }
                }
            }
        }
        StringBuilder output = new StringBuilder();
        sources.forEach((n, v) -> output.append(n).append('=').append(v).append('\n'));
        return made(output.toString(), face.toString(), parts, key);
    }

    // ---- what is asked

    private static String each(Iterable<String> some, String end) {
        StringBuilder all = new StringBuilder();
        for (String s : some) {
            all.append(s).append(end);
        }
        return all.toString();
    }

    private String asked(String request, String[] w) {
        switch (w[0]) {
            case "files": {
                StringBuilder all = new StringBuilder();
                world.files.forEach((p, b) -> all.append(p).append(' ').append(b.length()).append(';'));
                return all.toString();
            }
            case "show":
                return world.files.containsKey(w[1]) ? world.files.get(w[1]).replace('\n', '|') : "no file";
            case "targets": {
                List<String> all = new ArrayList<>();
                for (String name : sorted(world.targets.keySet())) {
                    all.add(world.targets.get(name));
                }
                return each(all, ";");
            }
            case "output":
                return put.containsKey(w[1]) ? put.get(w[1]).output().replace('\n', '|') : "none";
            case "face":
                return put.containsKey(w[1]) ? put.get(w[1]).face().replace('\n', '|') : "none";
            case "why":
                return reasons.getOrDefault(w[1], "never");
            case "runs":
                return session == null ? "" : each(session.runs, ";");
            case "work":
                return counts.getOrDefault("worked", 0) + " " + counts.getOrDefault("kept", 0) + " "
                        + counts.getOrDefault("ahead", 0);
            case "kept":
                return "" + kept.size();
            case "edition":
                return edition(w[1]);
            case "users": {
                List<String> all = new ArrayList<>();
                for (String t : sorted(world.targets.keySet())) {
                    for (String u : world.needs(t)) {
                        if (world.inputs(u).contains(w[1]) && !all.contains(t)) {
                            all.add(t);
                        }
                    }
                }
                return each(all, ";");
            }
            case "anew", "needs", "way", "longest":
                return chain(w);
            case "cut":
                return cut(Integer.parseInt(w[1]));
            default:
                return outside(request, w);
        }
    }

    private String cut(int n) {
        if (recordAt < 0 || n > book[recordAt] + 2) {
            return "no cut";
        }
        for (int i = recordAt + n; i < used; i++) {
            book[i] = 0;
        }
        shut = true;
        return "ok";
    }

    private String chain(String[] w) {
        for (int i = 1; i < w.length; i++) {
            if (!world.targets.containsKey(w[i])) {
                return "no target";
            }
        }
        switch (w[0]) {
            case "anew":
                return anew(w[1]);
            case "needs": {
                TreeSet<String> needed = world.needs(w[1]);
                TreeSet<String> paths = new TreeSet<>();
                for (String u : needed) {
                    for (String input : world.inputs(u)) {
                        if (!input.startsWith(":")) {
                            paths.add(input);
                        }
                    }
                }
                needed.remove(w[1]);
                return each(sorted(needed), ";") + each(paths, ",");
            }
            case "way": {
                List<List<String>> rows = new ArrayList<>();
                rows(List.of(w[1]), rows);
                rows.removeIf(row -> !row.get(row.size() - 1).equals(w[2]));
                rows.sort((x, y) -> x.size() != y.size() ? x.size() - y.size() : byNumbers(x, y));
                return rows.isEmpty() ? "none" : String.join(" ", rows.get(0));
            }
            default: {
                List<List<String>> rows = new ArrayList<>();
                rows(List.of(w[1]), rows);
                rows.sort((x, y) -> x.size() != y.size() ? y.size() - x.size() : byNumbers(x, y));
                return rows.get(0).size() + " " + String.join(" ", rows.get(0));
            }
        }
    }

    /** All rows of targets that go on from a row. */
    private void rows(List<String> row, List<List<String>> all) {
        all.add(row);
        for (String u : new TreeSet<>(world.below(row.get(row.size() - 1)))) {
            List<String> longer = new ArrayList<>(row);
            longer.add(u);
            rows(longer, all);
        }
    }

    private int byNumbers(List<String> x, List<String> y) {
        for (int i = 0; i < x.size(); i++) {
            int difference = names.indexOf(x.get(i)) - names.indexOf(y.get(i));
            if (difference != 0) {
                return difference;
            }
        }
        return 0;
    }

    private String anew(String name) {
        Session trial = new Session(world.copy(), name, new HashMap<>(), false);
        while (trial.going) {
            trial.step();
        }
        if (trial.failure() != null) {
            return trial.failure();
        }
        for (String t : trial.needed) {
            Made here = trial.done.get(t);
            Made there = put.get(t);
            if (there == null || !there.output().equals(here.output()) || !there.face().equals(here.face())) {
                return "unlike " + t;
            }
        }
        return "same";
    }

    // ---- outside parts

    private static boolean meets(int[] rule, int[] versions) {
        int q = versions[rule[2]];
        boolean held = q > 0 && rule[3] <= q && q <= rule[4];
        return rule[0] < 0 ? held : versions[rule[0]] != rule[1] || held;
    }

    private int[] solution() {
        List<int[]> all = new ArrayList<>();
        for (int i = 0; i < 1024; i++) {
            int[] versions = {i & 3, i >> 2 & 3, i >> 4 & 3, i >> 6 & 3, i >> 8 & 3};
            if (rules.stream().allMatch(r -> meets(r, versions))) {
                all.add(versions);
            }
        }
        all.sort((x, y) -> {
            long mine = Arrays.stream(x).filter(v -> v > 0).count();
            long other = Arrays.stream(y).filter(v -> v > 0).count();
            return mine != other ? Long.compare(mine, other) : Arrays.compare(y, x);
        });
        return all.isEmpty() ? null : all.get(0);
    }

    private String outside(String request, String[] w) {
        switch (w[0]) {
            case "rules": {
                StringBuilder all = new StringBuilder();
                for (int[] r : rules) {
                    all.append(r[0] < 0 ? "w" : "n" + r[0] + " " + r[1] + " ");
                    all.append(r[2] + " " + r[3] + " " + r[4] + ";");
                }
                return all.toString();
            }
            case "solve": {
                int[] best = solution();
                return best == null ? "none" : Arrays.toString(best).replaceAll("[\\[\\],]", "").replace('0', '-');
            }
            case "meets": {
                if (w.length != 6) {
                    return "five";
                }
                int[] versions = new int[5];
                for (int i = 0; i < 5; i++) {
                    versions[i] = w[i + 1].equals("-") ? 0 : Integer.parseInt(w[i + 1]);
                }
                for (int k = 0; k < rules.size(); k++) {
                    if (!meets(rules.get(k), versions)) {
                        return "broken " + k;
                    }
                }
                return "meets";
            }
            case "refute":
                return solution() != null ? "solved" : tree(new TreeMap<>());
            case "disprove":
                text = request.substring(9);
                leaves = 0;
                return judge(new TreeMap<>()) ? "refuted" : "open " + leaves;
            default:
                throw new IllegalStateException(w[0]);
        }
    }

    private boolean broken(int k, Map<Integer, Integer> way) {
        if (k >= rules.size()) {
            return false;
        }
        int[] r = rules.get(k);
        Integer q = way.get(r[2]);
        boolean off = q != null && (q == 0 || q < r[3] || q > r[4]);
        return off && (r[0] < 0 || Integer.valueOf(r[1]).equals(way.get(r[0])));
    }

    private String tree(Map<Integer, Integer> way) {
        for (int k = 0; k < rules.size(); k++) {
            if (broken(k, way)) {
                return "!" + k / 10 + k % 10;
            }
        }
        int part = 0;
        while (way.containsKey(part)) {
            part++;
        }
        StringBuilder all = new StringBuilder("?" + part);
        for (int v = 0; v < 4; v++) {
            Map<Integer, Integer> further = new TreeMap<>(way);
            further.put(part, v);
            all.append(tree(further));
        }
        return all.toString();
    }

    private String text;
    private int leaves;

    /** Judges the tree at the beginning of the text that is left, and takes it off. */
    private boolean judge(Map<Integer, Integer> way) {
        int digit = text.charAt(1) - '0';
        if (text.charAt(0) == '!') {
            int k = Integer.parseInt(text.substring(1, 3));
            text = text.substring(3);
            if (!broken(k, way)) {
                return false;
            }
            leaves++;
            return true;
        }
        text = text.substring(2);
        if (digit > 4) {
            return false;
        }
        for (int v = 0; v < 4; v++) {
            Map<Integer, Integer> further = new TreeMap<>(way);
            further.put(digit, v);
            if (!judge(further)) {
                return false;
            }
        }
        return true;
    }
}
