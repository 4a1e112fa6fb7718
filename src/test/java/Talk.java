import java.io.IOException;
import java.nio.file.Files;
import java.nio.file.Path;

/** A talk with a new house, for the tests: requests with the answers that are due. */
final class Talk {
    private static final String DOCUMENT = readDocument();

    private static int wrong = 0;
    private static String sentence = "";

    final BuildHouse house = new BuildHouse();

    /** Tells each line's request, what is ahead of " => ", and looks whether its answer is what is behind. */
    static Talk of(String script) {
        return new Talk().go(script);
    }

    /**
     * Says for which words of the document the next calls are: these are told with what is wrong. They must stand in
     * the document, when the property "document" says where it is: so a test does not outlive its sentence.
     */
    static void sentence(String words) {
        sentence = " [" + words + "]";
        if (!DOCUMENT.isEmpty() && !DOCUMENT.contains(words)) {
            due("the document has these words", false, true);
        }
    }

    private static String readDocument() {
        String path = System.getProperty("document", "");
        try {
            return path.isEmpty() ? "" : Files.readString(Path.of(path));
        } catch (IOException e) {
            throw new IllegalStateException("no document at " + path, e);
        }
    }

    Talk go(String script) {
        for (String line : script.split("\n")) {
            int arrow = line.indexOf(" =>");
            String due = line.substring(Math.min(arrow + 4, line.length()));
            says(line.substring(0, arrow), due);
        }
        return this;
    }

    Talk says(String request, String due) {
        due(request, tell(request), due);
        return this;
    }

    /** Answers that are all the same. */
    Talk eachSays(String due, String... requests) {
        for (String request : requests) {
            says(request, due);
        }
        return this;
    }

    Talk state(int what, int due) {
        due("state(" + what + ")", house.state(what), due);
        return this;
    }

    String tell(String request) {
        feed(request);
        int length = house.ask(request.length());
        due("ask's answer's length", length, house.state(10));
        return answer();
    }

    /** Puts bytes on the tape; zeros fill up the last twenty. */
    void feed(String bytes) {
        for (int i = 0; i < bytes.length(); i += 20) {
            int[] n = new int[5];
            for (int k = 0; k < 20 && i + k < bytes.length(); k++) {
                n[k / 4] |= (bytes.charAt(i + k) & 255) << 24 - k % 4 * 8;
            }
            house.feed(n[0], n[1], n[2], n[3], n[4]);
        }
    }

    String answer() {
        StringBuilder all = new StringBuilder();
        for (int i = 0; house.answer(i) >= 0; i++) {
            all.append((char) house.answer(i));
        }
        return all.toString();
    }

    static void due(String call, Object got, Object due) {
        if (!due.equals(got)) {
            wrong++;
            System.out.println(brief(call) + " answered " + brief(got) + ", due is " + brief(due) + sentence);
        }
    }

    private static String brief(Object told) {
        String all = String.valueOf(told);
        return all.length() < 200 ? all : all.substring(0, 200) + " .. (" + all.length() + ")";
    }

    /** Ends the test, with 1 when an answer was wrong. */
    static void end() {
        if (wrong > 0) {
            System.exit(1);
        }
    }
}
