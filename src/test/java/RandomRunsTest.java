import java.util.ArrayList;
import java.util.List;
import java.util.Random;

/** Random runs, always the same ones: each call on the class and on the model must answer alike. */
public final class RandomRunsTest {
    private static final String[] RULES = {"join", "sort", "uniq", "upper", "grep.o", "grep.x_1", "count", "digest",
        "compile", "compile", "compile"};
    private static final String[] LINES = {"one", "two", "", "x=1", "pub x=2", "y=x*x+2", "pub y=3", "z=x+y*2", "x=y",
        "pub z=y", "q=9999*9999+1", "pub q=0", "ooo", "abc", "a=5", "b=a+a*7", "pub c=b", "x=05", "pub =1", "w=k",
        "aaaaaaaa=12", "aaaaaaaaa=1", "k=10000", "x==1", "x=1+", "x=1*y"};

    private final Random random;
    private final int profile;
    private final BuildHouse house = new BuildHouse();
    private final ModelHouse model = new ModelHouse();
    private final List<String> log = new ArrayList<>();

    private RandomRunsTest(long seed) {
        random = new Random(seed);
        profile = (int) (seed % 8);
    }

    public static void main(String[] args) {
        int first = args.length > 0 ? Integer.parseInt(args[0]) : 0;
        int runs = args.length > 1 ? Integer.parseInt(args[1]) : 600;
        for (int seed = first; seed < first + runs; seed++) {
            RandomRunsTest run = new RandomRunsTest(seed);
            String wrong = run.go();
            if (wrong != null) {
                System.out.println("seed " + seed + ": " + wrong);
                run.log.forEach(System.out::println);
                System.exit(1);
            }
        }
        System.out.println("random runs: " + runs + " alike");
    }

    private String go() {
        for (int i = 0; i < 220; i++) {
            if (profile > 5 && (i == 0 || model.state(8) > 1990 || model.state(8) == 7)) {
                String wrong = setUp();
                if (wrong != null) {
                    return wrong;
                }
            }
            String wrong = profile > 5 && random.nextInt(3) > 0 ? round() : call();
            wrong = wrong == null ? compare(i % 20 == 19) : wrong;
            if (wrong != null) {
                return wrong;
            }
        }
        return null;
    }

    /** A house whose targets need those of lower numbers: most of what is built there can be. */
    private String setUp() {
        List<String> told = new ArrayList<>(List.of("house", "put a <" + shortText() + ">",
                "put b <" + shortText() + ">", "put c <" + shortText() + ">"));
        for (int t = 0; t < 6; t++) {
            told.add("target " + layered(t));
        }
        for (String request : told) {
            String wrong = ask(request);
            wrong = wrong == null ? compare(false) : wrong;
            if (wrong != null) {
                return wrong;
            }
        }
        return null;
    }

    /** A change, what is built of it, and a look at it. */
    private String round() {
        List<String> asked = new ArrayList<>();
        if (random.nextInt(3) > 0) {
            asked.add(request(0));
        }
        asked.add("build " + (random.nextInt(3) > 0 ? "t5" : target()));
        asked.add("go 999");
        asked.add(random.nextInt(4) == 0 ? "release " + target() : shown());
        if (random.nextInt(6) == 0) {
            asked.add(chain());
        }
        for (String request : asked) {
            String wrong = ask(request);
            wrong = wrong == null ? compare(false) : wrong;
            if (wrong != null) {
                return wrong;
            }
        }
        return null;
    }

    private String shortText() {
        if (profile == 6) {
            return pick("x=1|", "pub x=2|", "x=1|pub y=x+x|", "pub y=3|pub x=4", "z=y|", "pub z=5|", "pub q=x*y|", "",
                    "pub x=1||y=2|", "pub x=9999|pub y=x*x", "x=z|",
                    "x=" + random.nextInt(50), "pub x=" + random.nextInt(50) + "|");
        }
        return pick("o|p|o", "x|", "", "|", "o", "|o||o|", "x_1|o|x_1", "b|a|b", "~ !|o|", "o".repeat(90),
                "o".repeat(random.nextInt(161)), "x" + random.nextInt(100), "x" + random.nextInt(100) + "|", "aab|aa|a|");
    }

    private String layered(int t) {
        StringBuilder all = new StringBuilder("t").append(t).append('=');
        all.append(profile == 6 && random.nextInt(4) > 0 ? "compile" : RULES[random.nextInt(RULES.length - 2)]);
        int inputs = 1 + random.nextInt(random.nextInt(3) == 0 ? 6 : 2);
        for (int i = 0; i < inputs; i++) {
            boolean below = t > 0 && (random.nextInt(2) == 0 || i == 0);
            all.append(i == 0 ? '(' : ',').append(below ? ":t" + random.nextInt(t) : pick("a", "b", "c"));
        }
        return all.append(')').append(random.nextInt(12) == 0 ? "?f=" + number(1) : "").toString();
    }

    private String call() {
        int kind = random.nextInt(100);
        if (kind < 3) {
            log.add("disproveAnswer");
            return house.disproveAnswer() == model.disproveAnswer() ? null : "disproveAnswer's length";
        }
        if (kind < 5 && (profile == 4 || random.nextInt(6) == 0)) {
            int at = random.nextInt(8) == 0 ? random.nextInt(2200) - 60
                    : random.nextInt(Math.max(1, model.state(8)) + 3);
            int mask = random.nextInt(6) == 0 ? random.nextInt(400) - 50 : 1 << random.nextInt(8);
            log.add("poke " + at + " " + mask);
            return house.poke(at, mask) == model.poke(at, mask) ? null : "poke";
        }
        if (kind < 6) {
            int n = random.nextInt(40) - 10;
            log.add("ask(" + n + ")");
            return house.ask(n) == model.ask(n) ? null : "ask's length";
        }
        String request = request();
        if (random.nextInt(profile == 3 ? 2 : 25) == 0) {
            request = spoiled(request);
        }
        return ask(request);
    }

    private String ask(String request) {
        log.add("ask " + request);
        feed(request);
        int length = request.length();
        return house.ask(length) == model.ask(length) ? null : "ask's length";
    }

    private void feed(String request) {
        for (int i = 0; i < request.length(); i += 20) {
            int[] n = new int[5];
            for (int k = 0; k < 20; k++) {
                int b = i + k < request.length() ? request.charAt(i + k) : random.nextInt(3);
                n[k / 4] |= b << 24 - k % 4 * 8;
            }
            int got = house.feed(n[0], n[1], n[2], n[3], n[4]);
            int due = model.feed(n[0], n[1], n[2], n[3], n[4]);
            if (got != due) {
                throw new IllegalStateException("feed: " + got + " for " + due);
            }
        }
    }

    private String compare(boolean whole) {
        StringBuilder got = new StringBuilder();
        for (int i = 0; house.answer(i) >= 0; i++) {
            got.append((char) house.answer(i));
        }
        if (!got.toString().equals(model.latest())) {
            return "answered " + got + ", due is " + model.latest();
        }
        for (int what = -1; what < 14; what++) {
            if (house.state(what) != model.state(what)) {
                return "state " + what + " is " + house.state(what) + ", due is " + model.state(what);
            }
        }
        for (int i = whole ? -1 : 2049; i < 2050; i++) {
            if (house.byteAt(i) != model.byteAt(i)) {
                return "byte " + i + " is " + house.byteAt(i) + ", due is " + model.byteAt(i);
            }
        }
        return null;
    }

    private String spoiled(String request) {
        StringBuilder s = new StringBuilder(request);
        int at = random.nextInt(s.length() + 1);
        switch (random.nextInt(4)) {
            case 0: s.setLength(at); break;
            case 1: s.insert(at, odd()); break;
            case 2: if (at < s.length()) s.setCharAt(at, odd()); break;
            default: if (at < s.length()) s.deleteCharAt(at); break;
        }
        return s.toString();
    }

    private char odd() {
        String some = "abz_AZ09 .,:;=?!<>()+*-/|~";
        return random.nextInt(8) == 0 ? (char) random.nextInt(256) : some.charAt(random.nextInt(some.length()));
    }

    private String request() {
        int[][] weights = {
            // put gone flag target drop build go stop release rules unwish shown chain outside cut mend house
            {16, 2, 3, 14, 2, 10, 20, 1, 5, 0, 0, 14, 12, 0, 0, 1, 0},
            {16, 1, 8, 30, 2, 4, 6, 1, 3, 3, 0, 14, 12, 1, 0, 1, 0},
            {1, 0, 0, 1, 0, 1, 1, 0, 0, 35, 4, 2, 2, 40, 1, 2, 0},
            {6, 2, 2, 8, 2, 4, 5, 2, 2, 4, 2, 10, 6, 8, 1, 1, 1},
            {10, 2, 2, 10, 2, 6, 10, 1, 4, 4, 1, 8, 6, 4, 4, 10, 1},
            {10, 1, 2, 4, 1, 16, 24, 1, 8, 0, 0, 16, 10, 0, 0, 1, 0},
            {20, 1, 1, 3, 1, 18, 24, 1, 12, 0, 0, 24, 8, 0, 0, 1, 0},
            {20, 1, 1, 3, 1, 18, 24, 1, 12, 0, 0, 24, 8, 0, 0, 1, 0},
        };
        int[] w = weights[profile];
        int sum = 0;
        for (int n : w) {
            sum += n;
        }
        int pick = random.nextInt(sum);
        int kind = 0;
        while (pick >= w[kind]) {
            pick -= w[kind];
            kind++;
        }
        return request(kind);
    }

    private String request(int kind) {
        if (profile > 5 && kind == 0) {
            return "put " + path() + " <" + shortText() + ">";
        }
        if (profile > 5 && kind == 3) {
            return "target " + layered(random.nextInt(6));
        }
        if (profile > 5 && kind == 6 && random.nextInt(3) > 0) {
            return "go 999";
        }
        switch (kind) {
            case 0: return "put " + path() + " <" + text() + ">";
            case 1: return "gone " + path();
            case 2: return "flag " + flag() + " " + number(3);
            case 3: return "target " + definition();
            case 4: return "drop " + target();
            case 5: return "build " + target();
            case 6: return "go " + (random.nextInt(3) == 0 ? number(9999) : number(30));
            case 7: return "stop";
            case 8: return "release " + target();
            case 9: return rule();
            case 10: return "unwish";
            case 11: return shown();
            case 12: return chain();
            case 13: return outside();
            case 14: return "cut " + number(40);
            case 15: return "mend";
            default: return "house";
        }
    }

    private String pick(String... some) {
        return some[random.nextInt(some.length)];
    }

    private String path() {
        if (profile == 1 && random.nextInt(3) > 0) {
            return "p" + random.nextInt(20);
        }
        if (profile > 5) {
            return pick("a", "b", "c");
        }
        return pick("a", "b", "s.src", "t/u.src", "b/longpath12", "b/longpath", "a_");
    }

    private String target() {
        if (profile == 1) {
            return "t" + random.nextInt(16);
        }
        if (profile > 5) {
            return "t" + random.nextInt(6);
        }
        return pick("a", "lib", "app", "all", "top", "eightlen", "n");
    }

    private String flag() {
        return profile > 5 ? "f" : profile == 1 ? "f" + random.nextInt(8) : pick("dbg", "opt");
    }

    private String text() {
        StringBuilder all = new StringBuilder();
        int lines = random.nextInt(8);
        for (int i = 0; i < lines; i++) {
            all.append(LINES[random.nextInt(LINES.length)]);
            if (i + 1 < lines || random.nextInt(3) > 0) {
                all.append('|');
            }
        }
        if (random.nextInt(6) == 0) {
            all.append("o".repeat(random.nextInt(165)));
        }
        if (random.nextInt(12) == 0) {
            all.append("|".repeat(random.nextInt(90)));
        }
        return all.length() > 160 && random.nextInt(20) > 0 ? all.substring(0, 160) : all.toString();
    }

    private String definition() {
        StringBuilder all = new StringBuilder(target()).append('=');
        all.append(random.nextInt(25) == 0 ? pick("nope", "grep", "join.x", "compile.c", "joi", "joins")
                : pick(RULES));
        int inputs = 1 + random.nextInt(random.nextInt(4) == 0 ? 6 : 2);
        for (int i = 0; i < inputs; i++) {
            all.append(i == 0 ? '(' : ',').append(random.nextInt(5) < 2 ? path() : ":" + target());
        }
        all.append(')');
        if (random.nextInt(8) == 0) {
            all.append('?').append(flag()).append('=').append(number(2));
        }
        return all.toString();
    }

    private String number(int most) {
        return "" + random.nextInt(most + 1);
    }

    private String rule() {
        int top = random.nextInt(12) == 0 ? 7 : 4;
        int low = 1 + random.nextInt(3);
        int high = random.nextInt(10) == 0 ? random.nextInt(6) : low + random.nextInt(4 - low);
        String range = number(top) + " " + low + " " + high;
        return random.nextInt(3) == 0 ? "wish " + range
                : "need " + number(top) + " " + (random.nextInt(15) == 0 ? 4 : 1 + random.nextInt(3)) + " " + range;
    }

    private String shown() {
        switch (random.nextInt(10)) {
            case 0: return pick("files", "targets");
            case 1: return "show " + path();
            case 2: case 3: return "output " + target();
            case 4: return "face " + target();
            case 5: return "why " + target();
            case 6: return pick("runs", "work");
            case 7: return "users " + path();
            case 8: return pick("kept", "work");
            default: return "edition " + target();
        }
    }

    private String chain() {
        switch (random.nextInt(4)) {
            case 0: return "anew " + target();
            case 1: return "needs " + target();
            case 2: return "way " + target() + " " + target();
            default: return "longest " + target();
        }
    }

    private String outside() {
        switch (random.nextInt(7)) {
            case 0: return "rules";
            case 1: case 2: return "solve";
            case 3: return "refute";
            case 4:
                StringBuilder meets = new StringBuilder("meets");
                int count = random.nextInt(5) > 0 ? 5 : 1 + random.nextInt(8);
                for (int i = 0; i < count; i++) {
                    meets.append(' ').append(pick("-", "1", "2", "3"));
                }
                return meets.toString();
            case 5: return "disprove " + grownTree(0);
            default:
                // Most of a tree that was just told, with a digit changed.
                if (model.latest().startsWith("?")) {
                    StringBuilder tree = new StringBuilder(model.latest());
                    for (int i = random.nextInt(3); i > 0; i--) {
                        int at = random.nextInt(tree.length());
                        if (Character.isDigit(tree.charAt(at))) {
                            tree.setCharAt(at, (char) ('0' + random.nextInt(6)));
                        }
                    }
                    return "disprove " + tree;
                }
                return "refute";
        }
    }

    private String grownTree(int depth) {
        int stop = random.nextInt(6);
        if (depth > 0 && stop < 3 || depth > 7) {
            return "!0" + random.nextInt(stop == 0 ? 10 : 4);
        }
        StringBuilder all = new StringBuilder("?" + random.nextInt(random.nextInt(30) == 0 ? 6 : 5));
        for (int v = 0; v < 4; v++) {
            all.append(depth > 2 ? "!0" + random.nextInt(4) : grownTree(depth + 1));
        }
        return all.toString();
    }
}
