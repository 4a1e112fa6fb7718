import java.util.Arrays;

/**
 * A build house: files, targets with rules, sessions of two workers, outcomes kept under digests, editions,
 * versions of outside parts with trees that refute them, and a book of requests that is opened again.
 *
 * <p>All rows are made with the object and used again: a call makes nothing but a row that must grow.
 */
public final class BuildHouse {
    private static final int TAPE_ROOM = 4000;
    private static final int FED = 20;
    // Above the largest answer, a tree of 341 parts and 1024 leaves, with "disprove " ahead of it.
    private static final int REQUEST_ROOM = 4096;
    private static final int MOST_FILES = 16;
    private static final int MOST_FLAGS = 6;
    private static final int MOST_TARGETS = 14;
    private static final int MOST_INPUTS = 6;
    private static final int MOST_OUTPUT = 600;
    private static final int MOST_KEPT = 24;
    private static final int MOST_RULES = 20;
    private static final int MOST_TEXT = 160;
    private static final int MOST_RECORD = 200;
    private static final int BOOK_ROOM = 2048;
    private static final int WORKERS = 2;
    private static final int PARTS = 5;
    private static final int VERSIONS = 3;
    private static final int NAME_SIGNS = 8;
    private static final int PATH_SIGNS = 12;
    private static final int NUMBER_SIGNS = 4;
    private static final int LINE = 10;
    private static final int MODULUS = 10000;
    // Far above the steps of any session: 14 targets, each of some 360 steps at the most.
    private static final int ALL_STEPS = 1000000;

    // Kinds of requests: told, asked of what is there, asked of a target that must be there, asked of outside parts.
    private static final int TOLD = 0;
    private static final int SHOWN = 1;
    private static final int CHAIN = 2;
    private static final int OUTSIDE = 3;

    private final Row tape = new Row(TAPE_ROOM);
    private final Row latest = new Row(REQUEST_ROOM);
    private final Request request = new Request();
    private final Book book = new Book();
    private final Plan plan = new Plan();
    private final Versions versions = new Versions();
    private final Session session;
    private final Session trial;

    public BuildHouse() {
        Workshop workshop = new Workshop();
        session = new Session(workshop, MOST_KEPT);
        trial = new Session(workshop, 0);
    }

    public int feed(int a, int b, int c, int d, int e) {
        if (tape.size() + FED > TAPE_ROOM) {
            return -1;
        }
        tape.addInt(a);
        tape.addInt(b);
        tape.addInt(c);
        tape.addInt(d);
        tape.addInt(e);
        return tape.size();
    }

    public int ask(int n) {
        if (n < 0 || n > tape.size()) {
            return -1;
        }
        request.row.set(tape, 0, n);
        tape.clear();
        request.read();
        if (request.wrong < 0 && request.verb == Verb.MEND) {
            mend();
        } else {
            reply();
        }
        return latest.size();
    }

    public int answer(int i) {
        return latest.at(i);
    }

    public int disproveAnswer() {
        request.row.clear();
        request.row.addText(Verb.DISPROVE.word);
        request.row.addRow(latest);
        request.read();
        reply();
        return latest.size();
    }

    public int state(int what) {
        switch (what) {
            case 0: return plan.files;
            case 1: return plan.targetsThere();
            case 2: return versions.rules;
            case 3: return session.going ? 1 : 0;
            case 4: return session.steps;
            case 5: return session.neededCount();
            case 6: return session.doneCount();
            case 7: return session.store.keptCount;
            case 8: return book.shut ? -1 : book.used;
            case 9: return tape.size();
            case 10: return latest.size();
            case 11: return session.holds[0];
            case 12: return session.holds[1];
            default: return -1;
        }
    }

    public int byteAt(int i) {
        return book.at(i);
    }

    public boolean poke(int i, int mask) {
        return book.spoil(i, mask);
    }

    /** Answers the request at hand, which is not a right mend. */
    private void reply() {
        latest.clear();
        if (request.wrong >= 0) {
            latest.addText("bad ");
            latest.addNumber(request.wrong);
        } else if (book.shut && request.verb != Verb.HOUSE) {
            latest.addText("shut");
        } else if (request.verb.kind == CHAIN) {
            tellChain();
        } else if (request.verb.kind == OUTSIDE) {
            tellOutside();
        } else if (request.verb.kind == SHOWN) {
            show();
        } else if (admit(true)) {
            carryOut();
        }
    }

    /** Does the book's records anew, up to the first that is not right. */
    private void mend() {
        forget();
        int at = 0;
        int done = 0;
        while (done < BOOK_ROOM && book.readRecord(at, request.row)) {
            int length = request.row.size();
            request.read();
            if (request.wrong >= 0 || request.verb.kind != TOLD || !admit(false)) {
                break;
            }
            carryOut();
            at += length + 2;
            done++;
        }
        book.open(at);
        latest.clear();
        latest.addNumber(done);
    }

    /** All is as at first, but the book. */
    private void forget() {
        plan.clear();
        versions.clear();
        session.clear();
    }

    /** Whether the told request at hand may be done; it is written then. Else its refusal is the answer. */
    private boolean admit(boolean writing) {
        latest.clear();
        if (writing && request.verb == Verb.HOUSE) {
            book.begin();
        }
        String no = refusal();
        if (no.isEmpty() && writing && !book.fits(request.row.size())) {
            no = "no room";
        }
        if (!no.isEmpty()) {
            latest.addText(no);
            return false;
        }
        if (writing) {
            book.write(request.row);
        }
        return true;
    }

    /** Why the told request at hand is refused, the book's room aside; empty when it is not. */
    private String refusal() {
        long name = request.heads[0];
        Definition draft = request.draft;
        switch (request.verb) {
            case PUT:
                return plan.fileAt(name, request.tails[0]) < 0 && plan.files >= MOST_FILES ? "no room" : "";
            case GONE:
                return plan.fileAt(name, request.tails[0]) < 0 ? "no file" : "";
            case FLAG:
                return plan.flagAt(name) < 0 && plan.flags >= MOST_FLAGS ? "no room" : "";
            case TARGET:
                return !draft.hasRule() ? "no rule" : !draft.hasItsWord() ? "no word"
                        : plan.hasNoRoom(draft.name) ? "no room" : plan.wouldCircle(draft) ? "circle" : "";
            case DROP:
                return plan.targetAt(name) < 0 ? "no target" : "";
            case BUILD:
                return plan.targetAt(name) < 0 ? "no target" : session.going ? "busy" : "";
            case GO:
            case STOP:
                return session.going ? "" : "no session";
            case RELEASE:
                return session.store.hasPut(plan.numberOf(name)) ? "" : "none";
            case WISH:
                return versions.refusal(request.numbers, 0);
            case NEED:
                return versions.refusal(request.numbers, 2);
            case UNWISH:
                return versions.rules == 0 ? "no rule" : "";
            default:
                return "";
        }
    }

    /** Does the told request at hand, which is admitted. */
    private void carryOut() {
        long name = request.heads[0];
        switch (request.verb) {
            case HOUSE: forget(); break;
            case PUT: plan.putFile(request); break;
            case GONE: plan.removeFile(name, request.tails[0]); break;
            case FLAG: plan.setFlag(name, request.numbers[0]); break;
            case TARGET: plan.tellTarget(request.draft); break;
            case DROP: plan.drop(name); break;
            case BUILD: session.begin(plan, plan.targetAt(name)); break;
            case GO:
                session.go(request.numbers[0]);
                session.tellEnd(plan, latest);
                break;
            case STOP: session.stop(); break;
            case RELEASE: session.store.release(plan.numberOf(name), latest); break;
            case WISH: versions.add(request.numbers, 0, latest); break;
            case NEED: versions.add(request.numbers, 2, latest); break;
            case UNWISH: versions.removeLatest(); break;
            default: break;
        }
        if (latest.size() == 0) {
            latest.addText("ok");
        }
    }

    private void show() {
        int t = plan.numberOf(request.heads[0]);
        switch (request.verb) {
            case FILES: plan.tellFiles(latest); break;
            case SHOW: showFile(); break;
            case TARGETS: plan.tellTargets(latest); break;
            case OUTPUT: session.store.tellPut(t, false, latest); break;
            case FACE: session.store.tellPut(t, true, latest); break;
            case WHY: session.store.tellReason(t, latest); break;
            case RUNS: session.tellRuns(plan, latest); break;
            case WORK: session.tellWork(latest); break;
            case USERS: plan.tellUsers(request.heads[0], request.tails[0], latest); break;
            case KEPT: latest.addNumber(session.store.keptCount); break;
            case EDITION: session.store.tellEdition(t, latest); break;
            case CUT: latest.addText(book.cut(request.numbers[0]) ? "ok" : "no cut"); break;
            default: break;
        }
    }

    private void showFile() {
        int f = plan.fileAt(request.heads[0], request.tails[0]);
        if (f < 0) {
            latest.addText("no file");
        } else {
            latest.addTold(plan.contents[f]);
        }
    }

    private void tellChain() {
        int from = plan.targetAt(request.heads[0]);
        int to = request.verb == Verb.WAY ? plan.targetAt(request.heads[1]) : from;
        if (from < 0 || to < 0) {
            latest.addText("no target");
            return;
        }
        switch (request.verb) {
            case ANEW:
                trial.clear();
                trial.begin(plan, from);
                trial.go(ALL_STEPS);
                tellTrial();
                break;
            case NEEDS: plan.tellNeeds(from, latest); break;
            case WAY: plan.tellWay(from, to, latest); break;
            case LONGEST: plan.tellLongest(from, latest); break;
            default: break;
        }
    }

    private void tellTrial() {
        if (trial.failed >= 0) {
            trial.tellEnd(plan, latest);
            return;
        }
        int unlike = trial.lowestUnlike(session.store);
        if (unlike < 0) {
            latest.addText("same");
        } else {
            latest.addText("unlike ");
            latest.addName(plan.nameOf(unlike));
        }
    }

    private void tellOutside() {
        switch (request.verb) {
            case RULES: versions.tellRules(latest); break;
            case SOLVE: versions.tellSolution(latest); break;
            case MEETS: versions.tellMeets(request.numbers, request.numberCount, latest); break;
            case REFUTE: versions.refute(latest); break;
            case DISPROVE: versions.disprove(request.row, request.verb.word.length(), latest); break;
            default: break;
        }
    }

    /**
     * The requests' first words. The form of what follows: a name, p path, n number, t text, d definition of a
     * target, v versions, r tree; a blank for itself.
     */
    private enum Verb {
        HOUSE("house", "", TOLD),
        PUT("put ", "p t", TOLD),
        GONE("gone ", "p", TOLD),
        FLAG("flag ", "a n", TOLD),
        TARGET("target ", "d", TOLD),
        DROP("drop ", "a", TOLD),
        BUILD("build ", "a", TOLD),
        GO("go ", "n", TOLD),
        STOP("stop", "", TOLD),
        RELEASE("release ", "a", TOLD),
        WISH("wish ", "n n n", TOLD),
        NEED("need ", "n n n n n", TOLD),
        UNWISH("unwish", "", TOLD),
        FILES("files", "", SHOWN),
        SHOW("show ", "p", SHOWN),
        TARGETS("targets", "", SHOWN),
        OUTPUT("output ", "a", SHOWN),
        FACE("face ", "a", SHOWN),
        WHY("why ", "a", SHOWN),
        RUNS("runs", "", SHOWN),
        WORK("work", "", SHOWN),
        ANEW("anew ", "a", CHAIN),
        NEEDS("needs ", "a", CHAIN),
        USERS("users ", "p", SHOWN),
        WAY("way ", "a a", CHAIN),
        LONGEST("longest ", "a", CHAIN),
        KEPT("kept", "", SHOWN),
        EDITION("edition ", "a", SHOWN),
        RULES("rules", "", OUTSIDE),
        SOLVE("solve", "", OUTSIDE),
        MEETS("meets ", "v", OUTSIDE),
        REFUTE("refute", "", OUTSIDE),
        DISPROVE("disprove ", "r", OUTSIDE),
        CUT("cut ", "n", SHOWN),
        MEND("mend", "", SHOWN);

        private final String word;
        private final String form;
        private final int kind;

        Verb(String word, String form, int kind) {
            this.word = word;
            this.form = form;
            this.kind = kind;
        }
    }

    /**
     * Bytes in a row. What is added beyond its room is left out; reading outside answers -1.
     *
     * <p>A name is handled as a long of its eight signs, the first one highest, 0 behind the end: so two names
     * are compared by their bytes as two numbers. A path is two of these, its head and its tail.
     */
    private static final class Row {
        private byte[] bytes;
        private int size;

        Row(int room) {
            bytes = new byte[Math.max(room, 0)];
        }

        int size() {
            return size;
        }

        int at(int i) {
            return i >= 0 && i < size ? bytes[i] & 255 : -1;
        }

        void clear() {
            size = 0;
        }

        void add(int b) {
            if (size < bytes.length) {
                bytes[size] = (byte) b;
                size++;
            }
        }

        void addText(String text) {
            for (int i = 0; i < text.length(); i++) {
                add(text.charAt(i));
            }
        }

        /** Adds a number that is not below 0. */
        void addNumber(int n) {
            int unit = 1;
            while (unit < 1000000000 && n / unit >= 10) {
                unit *= 10;
            }
            for (; unit > 0; unit /= 10) {
                add('0' + n / unit % 10);
            }
        }

        void addName(long name) {
            for (int shift = 56; shift >= 0; shift -= 8) {
                int sign = (int) (name >>> shift) & 255;
                if (sign != 0) {
                    add(sign);
                }
            }
        }

        void addInt(int n) {
            for (int shift = 24; shift >= 0; shift -= 8) {
                add(n >>> shift & 255);
            }
        }

        void addHex(long n) {
            for (int shift = 60; shift >= 0; shift -= 4) {
                int digit = (int) (n >>> shift) & 15;
                add(digit < 10 ? '0' + digit : 'a' + digit - 10);
            }
        }

        void addRow(Row other) {
            int count = Math.min(other.size, bytes.length - size);
            if (count > 0) {
                System.arraycopy(other.bytes, 0, bytes, size, count);
                size += count;
            }
        }

        /** Adds the bytes from a place up to another, both in the other row, and an end of line. */
        void addLine(Row other, int from, int end) {
            for (int i = from; i < end && i < other.size; i++) {
                add(other.at(i));
            }
            add(LINE);
        }

        /** Adds bytes as they are told, with | for the ends of lines. */
        void addTold(Row other) {
            for (int i = 0; i < other.size; i++) {
                add(other.bytes[i] == LINE ? '|' : other.bytes[i]);
            }
        }

        /** Takes bytes as they are told, with | for the ends of lines. */
        void setTold(Row other, int from, int end) {
            set(other, from, end);
            for (int i = 0; i < size; i++) {
                if (bytes[i] == '|') {
                    bytes[i] = LINE;
                }
            }
        }

        /** Takes the other row's bytes from a place up to another; grows when it must, at least to the double. */
        void set(Row other, int from, int end) {
            int first = Math.max(from, 0);
            int count = Math.max(Math.min(end, other.size) - first, 0);
            if (bytes.length < count) {
                bytes = new byte[Math.max(count, 2 * bytes.length)];
            }
            if (count > 0) {
                System.arraycopy(other.bytes, first, bytes, 0, count);
            }
            size = count;
        }

        boolean sameAs(Row other) {
            return order(0, size, other, 0, other.size) == 0;
        }

        /** Below 0, 0 or above: how these bytes of this row stand to those of the other, by bytes. */
        int order(int from, int end, Row other, int otherFrom, int otherEnd) {
            int length = Math.max(end - from, 0);
            int otherLength = Math.max(otherEnd - otherFrom, 0);
            for (int i = 0; i < length && i < otherLength; i++) {
                int difference = at(from + i) - other.at(otherFrom + i);
                if (difference != 0) {
                    return difference;
                }
            }
            return length - otherLength;
        }

        /** Where the line that begins at a place ends. */
        int lineEnd(int from) {
            int i = Math.max(from, 0);
            while (i < size && bytes[i] != LINE) {
                i++;
            }
            return i;
        }

        /** Whether each line of the other row is like a line of this one. */
        boolean hasLinesOf(Row other) {
            int from = 0;
            while (from < other.size) {
                int end = other.lineEnd(from);
                if (!hasLine(other, from, end)) {
                    return false;
                }
                from = end + 1;
            }
            return true;
        }

        private boolean hasLine(Row other, int otherFrom, int otherEnd) {
            int from = 0;
            while (from < size) {
                int end = lineEnd(from);
                if (order(from, end, other, otherFrom, otherEnd) == 0) {
                    return true;
                }
                from = end + 1;
            }
            return false;
        }

        long digest() {
            long h = -3750763034362895579L;
            for (int i = 0; i < size; i++) {
                h = (h ^ (bytes[i] & 255)) * 1099511628211L;
            }
            return h;
        }

        /**
         * Where a name or a path that begins at a place ends; that place itself when there is none: a letter, then
         * more of these, _, and signs from the lowest one (0 or .) up to 9.
         */
        int wordEnd(int from, int most, int lowest) {
            int i = Math.max(from, 0);
            for (; i < size && i - from < most; i++) {
                int b = bytes[i];
                boolean later = i > from && (b >= lowest && b <= '9' || b == '_');
                if ((b < 'a' || b > 'z') && !later) {
                    return i;
                }
            }
            return i;
        }

        /** Where a number that begins at a place ends; that place itself when there is none. */
        int numberEnd(int from) {
            int i = Math.max(from, 0);
            int signs = i < size && bytes[i] == '0' ? 1 : NUMBER_SIGNS;
            while (i < size && i - from < signs && bytes[i] >= '0' && bytes[i] <= '9') {
                i++;
            }
            return i;
        }

        int numberIn(int from, int end) {
            int n = 0;
            for (int i = Math.max(from, 0); i < end && i < size; i++) {
                n = n * 10 + bytes[i] - '0';
            }
            return n;
        }

        /** The name of eight signs at the most from a place up to another. */
        long nameIn(int from, int end) {
            long name = 0;
            for (int i = from; i < from + NAME_SIGNS; i++) {
                name = name << 8 | (i >= 0 && i < end && i < size ? bytes[i] & 255 : 0);
            }
            return name;
        }
    }

    /** A request's bytes, read by the grammar. */
    private static final class Request {
        private final Row row = new Row(REQUEST_ROOM);
        private final Verb[] verbs = Verb.values();
        private Verb verb = Verb.HOUSE;
        // The place of the first wrong byte; -1 when the request is right.
        private int wrong = -1;
        private int at;
        private final long[] heads = new long[2];
        private final long[] tails = new long[2];
        private int words;
        private final int[] numbers = new int[PARTS];
        private int numberCount;
        private int textFrom;
        private int textEnd;
        private final Definition draft = new Definition();

        void read() {
            at = 0;
            words = 0;
            numberCount = 0;
            boolean right = readVerb();
            for (int i = 0; right && i < verb.form.length(); i++) {
                right = readPart(verb.form.charAt(i));
            }
            wrong = right && at == row.size() ? -1 : at;
        }

        private boolean readVerb() {
            for (int v = 0; v < verbs.length; v++) {
                String word = verbs[v].word;
                int same = 0;
                while (same < word.length() && row.at(same) == word.charAt(same)) {
                    same++;
                }
                at = Math.max(at, same);
                if (same == word.length()) {
                    verb = verbs[v];
                    at = same;
                    return true;
                }
            }
            return false;
        }

        private boolean readPart(char kind) {
            switch (kind) {
                case 'a': return readName();
                case 'p': return readPath();
                case 'n': return readNumber();
                case 't': return readText();
                case 'd': return readDefinition();
                case 'v': return readVersions();
                case 'r': return readTree();
                default: return readSign(kind);
            }
        }

        private boolean readSign(int sign) {
            if (row.at(at) != sign) {
                return false;
            }
            at++;
            return true;
        }

        private boolean readName() {
            int end = row.wordEnd(at, NAME_SIGNS, '0');
            long name = row.nameIn(at, end);
            return readWord(end, name, 0);
        }

        private boolean readPath() {
            // The signs from . on are . and / and the digits.
            int end = row.wordEnd(at, PATH_SIGNS, '.');
            return readWord(end, row.nameIn(at, end), row.nameIn(at + NAME_SIGNS, end));
        }

        /** Goes to the end of a word that is there, and keeps it when it is one of the first two. */
        private boolean readWord(int end, long head, long tail) {
            if (end == at) {
                return false;
            }
            at = end;
            if (words < heads.length) {
                heads[words] = head;
                tails[words] = tail;
                words++;
            }
            return true;
        }

        private boolean readNumber() {
            int end = row.numberEnd(at);
            if (end == at) {
                return false;
            }
            keepNumber(row.numberIn(at, end));
            at = end;
            return true;
        }

        private void keepNumber(int n) {
            if (numberCount < numbers.length) {
                numbers[numberCount] = n;
            }
            numberCount++;
        }

        private boolean readText() {
            if (!readSign('<')) {
                return false;
            }
            textFrom = at;
            for (int i = 0; i < MOST_TEXT; i++) {
                int sign = row.at(at);
                if (sign < 32 || sign > 126 || sign == '>') {
                    break;
                }
                at++;
            }
            textEnd = at;
            return readSign('>');
        }

        private boolean readDefinition() {
            int from = at;
            draft.clear();
            words = 0;
            if (!readName() || !readSign('=')) {
                return false;
            }
            draft.name = heads[0];
            if (!readRule() || !readSign('(')) {
                return false;
            }
            for (int i = 0; i < MOST_INPUTS; i++) {
                if (!readInput()) {
                    return false;
                }
                if (i + 1 == MOST_INPUTS || !readSign(',')) {
                    break;
                }
            }
            if (!readSign(')') || row.at(at) == '?' && !readCondition()) {
                return false;
            }
            draft.text.set(row, from, at);
            return true;
        }

        private boolean readRule() {
            words = 0;
            if (!readName()) {
                return false;
            }
            draft.setRule(heads[0]);
            if (row.at(at) != '.') {
                return true;
            }
            at++;
            words = 0;
            if (!readName()) {
                return false;
            }
            draft.word = heads[0];
            return true;
        }

        private boolean readInput() {
            words = 0;
            boolean ofTarget = readSign(':');
            if (ofTarget ? !readName() : !readPath()) {
                return false;
            }
            draft.addInput(ofTarget, heads[0], tails[0]);
            return true;
        }

        private boolean readCondition() {
            at++;
            words = 0;
            if (!readName() || !readSign('=') || !readNumber()) {
                return false;
            }
            draft.flag = heads[0];
            draft.number = numbers[0];
            return true;
        }

        private boolean readVersions() {
            for (int i = 0; i < REQUEST_ROOM; i++) {
                int sign = row.at(at);
                if (sign != '-' && (sign < '1' || sign > '0' + VERSIONS)) {
                    return false;
                }
                keepNumber(sign == '-' ? 0 : sign - '0');
                at++;
                if (!readSign(' ')) {
                    return true;
                }
            }
            return false;
        }

        /** Reads a tree, counting the trees that are still to come: so no depth is too deep. */
        private boolean readTree() {
            int open = 1;
            for (int i = 0; i < REQUEST_ROOM && open > 0; i++) {
                if (readSign('?')) {
                    open += 3;
                    if (!readDigit()) {
                        return false;
                    }
                } else {
                    open--;
                    if (!readSign('!') || !readDigit() || !readDigit()) {
                        return false;
                    }
                }
            }
            return open == 0;
        }

        private boolean readDigit() {
            int sign = row.at(at);
            if (sign < '0' || sign > '9') {
                return false;
            }
            at++;
            return true;
        }
    }

    /** What a target request says. */
    private static final class Definition {
        private static final int SORT = 1;
        private static final int UNIQ = 2;
        private static final int UPPER = 3;
        private static final int GREP = 4;
        private static final int COUNT = 5;
        private static final int DIGEST = 6;
        private static final int COMPILE = 7;
        // Each rule in eight signs, in the order of their codes (join is 0).
        private static final String RULES = "join    sort    uniq    upper   grep    count   digest  compile ";

        private boolean there;
        private long name;
        private long rule;
        private int code = -1;
        private long word;
        private int inputs;
        private final boolean[] ofTarget = new boolean[MOST_INPUTS];
        private final long[] heads = new long[MOST_INPUTS];
        private final long[] tails = new long[MOST_INPUTS];
        // The condition's flag; 0 when there is no condition.
        private long flag;
        private int number;
        private final Row text = new Row(0);

        void clear() {
            there = false;
            name = 0;
            rule = 0;
            code = -1;
            word = 0;
            inputs = 0;
            flag = 0;
            number = 0;
            text.clear();
        }

        void setRule(long told) {
            rule = told;
            code = -1;
            for (int k = 0; k < RULES.length() / NAME_SIGNS; k++) {
                long known = 0;
                for (int i = 0; i < NAME_SIGNS; i++) {
                    int sign = RULES.charAt(k * NAME_SIGNS + i);
                    known = known << 8 | (sign == ' ' ? 0 : sign);
                }
                if (known == told) {
                    code = k;
                }
            }
        }

        boolean hasRule() {
            return code >= 0;
        }

        /** Whether there is a word where the rule wants one, and none where it does not. */
        boolean hasItsWord() {
            return (code == GREP) == (word != 0);
        }

        void addInput(boolean isTarget, long head, long tail) {
            if (inputs < MOST_INPUTS) {
                ofTarget[inputs] = isTarget;
                heads[inputs] = head;
                tails[inputs] = tail;
                inputs++;
            }
        }

        boolean namesTarget(long other) {
            for (int i = 0; i < inputs; i++) {
                if (ofTarget[i] && heads[i] == other) {
                    return true;
                }
            }
            return false;
        }

        boolean namesFile(long head, long tail) {
            for (int i = 0; i < inputs; i++) {
                if (!ofTarget[i] && heads[i] == head && tails[i] == tail) {
                    return true;
                }
            }
            return false;
        }

        void copyFrom(Definition other) {
            there = other.there;
            name = other.name;
            rule = other.rule;
            code = other.code;
            word = other.word;
            inputs = other.inputs;
            System.arraycopy(other.ofTarget, 0, ofTarget, 0, MOST_INPUTS);
            System.arraycopy(other.heads, 0, heads, 0, MOST_INPUTS);
            System.arraycopy(other.tails, 0, tails, 0, MOST_INPUTS);
            flag = other.flag;
            number = other.number;
            text.set(other.text, 0, other.text.size());
        }
    }

    /** Files (in the order of their paths), flags and targets (by their numbers), and the chains of needs. */
    private static final class Plan {
        // Stands behind all heads of paths.
        private static final long BEHIND_ALL = 0x7fffffffffffffffL;

        private int files;
        private final long[] heads = new long[MOST_FILES];
        private final long[] tails = new long[MOST_FILES];
        private final Row[] contents = new Row[MOST_FILES];
        private int flags;
        private final long[] flagNames = new long[MOST_FLAGS];
        private final int[] flagNumbers = new int[MOST_FLAGS];
        // Names of targets that were ever told, those that were dropped with them.
        private int targets;
        private final Definition[] definitions = new Definition[MOST_TARGETS];
        // For the chains: a number for each target, used anew by each question.
        private final int[] marks = new int[MOST_TARGETS];

        Plan() {
            for (int f = 0; f < MOST_FILES; f++) {
                contents[f] = new Row(0);
            }
            for (int t = 0; t < MOST_TARGETS; t++) {
                definitions[t] = new Definition();
            }
        }

        void clear() {
            files = 0;
            flags = 0;
            targets = 0;
        }

        void copyFrom(Plan other) {
            files = other.files;
            System.arraycopy(other.heads, 0, heads, 0, MOST_FILES);
            System.arraycopy(other.tails, 0, tails, 0, MOST_FILES);
            for (int f = 0; f < files; f++) {
                contents[f].set(other.contents[f], 0, other.contents[f].size());
            }
            flags = other.flags;
            System.arraycopy(other.flagNames, 0, flagNames, 0, MOST_FLAGS);
            System.arraycopy(other.flagNumbers, 0, flagNumbers, 0, MOST_FLAGS);
            targets = other.targets;
            for (int t = 0; t < targets; t++) {
                definitions[t].copyFrom(other.definitions[t]);
            }
        }

        int fileAt(long head, long tail) {
            for (int f = 0; f < files; f++) {
                if (heads[f] == head && tails[f] == tail) {
                    return f;
                }
            }
            return -1;
        }

        void putFile(Request told) {
            long head = told.heads[0];
            long tail = told.tails[0];
            int f = fileAt(head, tail);
            if (f < 0) {
                f = makePlace(head, tail);
            }
            if (f >= 0) {
                contents[f].setTold(told.row, told.textFrom, told.textEnd);
            }
        }

        /** A place for a new file, in the order of the paths; the row behind the last one moves to it. */
        private int makePlace(long head, long tail) {
            if (files >= MOST_FILES) {
                return -1;
            }
            Row spare = contents[files];
            int f = files;
            while (f > 0 && isBehind(f - 1, head, tail)) {
                heads[f] = heads[f - 1];
                tails[f] = tails[f - 1];
                contents[f] = contents[f - 1];
                f--;
            }
            heads[f] = head;
            tails[f] = tail;
            contents[f] = spare;
            files++;
            return f;
        }

        private boolean isBehind(int f, long head, long tail) {
            return heads[f] > head || heads[f] == head && tails[f] > tail;
        }

        void removeFile(long head, long tail) {
            int f = fileAt(head, tail);
            if (f < 0) {
                return;
            }
            Row spare = contents[f];
            for (int i = f; i + 1 < files; i++) {
                heads[i] = heads[i + 1];
                tails[i] = tails[i + 1];
                contents[i] = contents[i + 1];
            }
            files--;
            contents[files] = spare;
        }

        int flagAt(long name) {
            for (int g = 0; g < flags; g++) {
                if (flagNames[g] == name) {
                    return g;
                }
            }
            return -1;
        }

        void setFlag(long name, int number) {
            int g = flagAt(name);
            if (g < 0 && flags < MOST_FLAGS) {
                g = flags;
                flags++;
            }
            if (g >= 0) {
                flagNames[g] = name;
                flagNumbers[g] = number;
            }
        }

        /** The number of a target's name, there or not; -1 when it was never told. */
        int numberOf(long name) {
            for (int t = 0; t < targets; t++) {
                if (definitions[t].name == name) {
                    return t;
                }
            }
            return -1;
        }

        /** The number of a target that is there; -1 when it is not. */
        int targetAt(long name) {
            for (int t = 0; t < targets; t++) {
                if (definitions[t].name == name) {
                    return definitions[t].there ? t : -1;
                }
            }
            return -1;
        }

        boolean hasNoRoom(long name) {
            return numberOf(name) < 0 && targets >= MOST_TARGETS;
        }

        long nameOf(int t) {
            return t >= 0 && t < targets ? definitions[t].name : 0;
        }

        int targetsThere() {
            int count = 0;
            for (int t = 0; t < targets; t++) {
                count += definitions[t].there ? 1 : 0;
            }
            return count;
        }

        void tellTarget(Definition draft) {
            int t = numberOf(draft.name);
            if (t < 0 && targets < MOST_TARGETS) {
                t = targets;
                targets++;
            }
            if (t >= 0) {
                definitions[t].copyFrom(draft);
                definitions[t].there = true;
            }
        }

        void drop(long name) {
            int t = numberOf(name);
            if (t >= 0) {
                definitions[t].there = false;
            }
        }

        /** The target that an input of a target that is there names, when it is there, too; else -1. */
        int inputTarget(int t, int i) {
            if (t < 0 || t >= targets || i < 0 || i >= definitions[t].inputs) {
                return -1;
            }
            Definition d = definitions[t];
            return d.there && d.ofTarget[i] ? targetAt(d.heads[i]) : -1;
        }

        /** Whether an action fails ahead; why is added then. */
        boolean failsAhead(int t, Row why) {
            if (t < 0 || t >= targets) {
                return false;
            }
            Definition d = definitions[t];
            if (d.flag != 0) {
                int g = flagAt(d.flag);
                if ((g < 0 ? 0 : flagNumbers[g]) != d.number) {
                    why.addText("absent");
                    return true;
                }
            }
            for (int i = 0; i < d.inputs; i++) {
                if (d.ofTarget[i] ? targetAt(d.heads[i]) < 0 : fileAt(d.heads[i], d.tails[i]) < 0) {
                    why.addText(d.ofTarget[i] ? "no target " : "no file ");
                    why.addName(d.heads[i]);
                    why.addName(d.tails[i]);
                    return true;
                }
            }
            return false;
        }

        /** Marks (by 1) a target and those that it needs. */
        void markNeeds(int t, int[] needed) {
            Arrays.fill(needed, 0);
            if (t < 0 || t >= targets || needed.length < targets) {
                return;
            }
            needed[t] = 1;
            boolean more = true;
            for (int round = 0; more && round < MOST_TARGETS; round++) {
                more = false;
                for (int u = 0; u < targets; u++) {
                    for (int i = 0; needed[u] == 1 && i < definitions[u].inputs; i++) {
                        int v = inputTarget(u, i);
                        if (v >= 0 && needed[v] == 0) {
                            needed[v] = 1;
                            more = true;
                        }
                    }
                }
            }
        }

        /** Marks those, too, that need one that is marked. */
        private void markUsers() {
            boolean more = true;
            for (int round = 0; more && round < MOST_TARGETS; round++) {
                more = false;
                for (int u = 0; u < targets; u++) {
                    for (int i = 0; marks[u] == 0 && i < definitions[u].inputs; i++) {
                        int v = inputTarget(u, i);
                        if (v >= 0 && marks[v] == 1) {
                            marks[u] = 1;
                            more = true;
                        }
                    }
                }
            }
        }

        /** Whether a target would need itself when it were as the draft says. */
        boolean wouldCircle(Definition draft) {
            if (draft.namesTarget(draft.name)) {
                return true;
            }
            for (int u = 0; u < targets; u++) {
                marks[u] = definitions[u].there && definitions[u].namesTarget(draft.name) ? 1 : 0;
            }
            markUsers();
            for (int i = 0; i < draft.inputs; i++) {
                int v = draft.ofTarget[i] ? targetAt(draft.heads[i]) : -1;
                if (v >= 0 && marks[v] == 1) {
                    return true;
                }
            }
            return false;
        }

        void tellFiles(Row out) {
            for (int f = 0; f < files; f++) {
                out.addName(heads[f]);
                out.addName(tails[f]);
                out.add(' ');
                out.addNumber(contents[f].size());
                out.add(';');
            }
        }

        void tellTargets(Row out) {
            for (int t = 0; t < targets; t++) {
                if (definitions[t].there) {
                    out.addRow(definitions[t].text);
                    out.add(';');
                }
            }
        }

        void tellUsers(long head, long tail, Row out) {
            for (int u = 0; u < targets; u++) {
                marks[u] = definitions[u].there && definitions[u].namesFile(head, tail) ? 1 : 0;
            }
            markUsers();
            tellMarked(-1, out);
        }

        /** Tells the marked targets but one. */
        private void tellMarked(int but, Row out) {
            for (int u = 0; u < targets; u++) {
                if (marks[u] == 1 && u != but) {
                    out.addName(definitions[u].name);
                    out.add(';');
                }
            }
        }

        void tellNeeds(int t, Row out) {
            markNeeds(t, marks);
            tellMarked(t, out);
            long head = 0;
            long tail = 0;
            // Each round finds the next path; the rounds are not more than the inputs of all targets.
            for (int round = 0; round < MOST_TARGETS * MOST_INPUTS; round++) {
                long nextHead = BEHIND_ALL;
                long nextTail = 0;
                for (int u = 0; u < targets; u++) {
                    Definition d = definitions[u];
                    for (int i = 0; marks[u] == 1 && i < d.inputs; i++) {
                        if (!d.ofTarget[i] && isAhead(head, tail, d.heads[i], d.tails[i])
                                && isAhead(d.heads[i], d.tails[i], nextHead, nextTail)) {
                            nextHead = d.heads[i];
                            nextTail = d.tails[i];
                        }
                    }
                }
                if (nextHead == BEHIND_ALL) {
                    return;
                }
                head = nextHead;
                tail = nextTail;
                out.addName(head);
                out.addName(tail);
                out.add(',');
            }
        }

        private boolean isAhead(long head, long tail, long otherHead, long otherTail) {
            return head < otherHead || head == otherHead && tail < otherTail;
        }

        /** Tells the shortest row from a target to another, going to the lowest number that is nearer each time. */
        void tellWay(int from, int to, Row out) {
            if (from < 0 || from >= targets || to < 0 || to >= targets) {
                return;
            }
            markWays(to);
            if (marks[from] == 0) {
                out.addText("none");
                return;
            }
            tellDown(from, out);
        }

        /** Marks each target by how many targets stand in the shortest row from it to another, 0 without one. */
        private void markWays(int to) {
            Arrays.fill(marks, 0);
            marks[to] = 1;
            for (int far = 1; far < MOST_TARGETS; far++) {
                for (int u = 0; u < targets; u++) {
                    for (int i = 0; marks[u] == 0 && i < definitions[u].inputs; i++) {
                        int v = inputTarget(u, i);
                        if (v >= 0 && marks[v] == far) {
                            marks[u] = far + 1;
                        }
                    }
                }
            }
        }

        void tellLongest(int from, Row out) {
            if (from < 0 || from >= targets) {
                return;
            }
            markLengths();
            out.addNumber(marks[from]);
            out.add(' ');
            tellDown(from, out);
        }

        /** Marks each target by how many targets stand in the longest row from it on. */
        private void markLengths() {
            Arrays.fill(marks, 1);
            for (int round = 0; round < MOST_TARGETS; round++) {
                for (int u = 0; u < targets; u++) {
                    for (int i = 0; i < definitions[u].inputs; i++) {
                        int v = inputTarget(u, i);
                        if (v >= 0 && marks[v] >= marks[u]) {
                            marks[u] = marks[v] + 1;
                        }
                    }
                }
            }
        }

        /** Tells a row of targets along marks that go down by 1 to 1, the lowest number first. */
        private void tellDown(int from, Row out) {
            int t = from;
            out.addName(definitions[t].name);
            for (int mark = marks[t] - 1; mark > 0; mark--) {
                int next = MOST_TARGETS;
                for (int i = 0; i < definitions[t].inputs; i++) {
                    int v = inputTarget(t, i);
                    if (v >= 0 && marks[v] == mark) {
                        next = Math.min(next, v);
                    }
                }
                if (next >= targets) {
                    return;
                }
                t = next;
                out.add(' ');
                out.addName(definitions[t].name);
            }
        }
    }

    /** What came of an action, and the parts it came of. */
    private static final class Outcome {
        private boolean built;
        private final Row output = new Row(0);
        private final Row face = new Row(0);
        private final Row why = new Row(24);
        // The rule's part and one for each input.
        private final long[] parts = new long[MOST_INPUTS + 1];
        private int partCount;
        private long key;

        void clear() {
            built = false;
            output.clear();
            face.clear();
            why.clear();
            partCount = 0;
            key = 0;
        }

        void takeResult(Outcome other) {
            built = other.built;
            output.set(other.output, 0, other.output.size());
            face.set(other.face, 0, other.face.size());
            why.set(other.why, 0, other.why.size());
        }

        void takeParts(Outcome other) {
            System.arraycopy(other.parts, 0, parts, 0, parts.length);
            partCount = other.partCount;
        }

        void addPart(long part) {
            if (partCount < parts.length) {
                parts[partCount] = part;
                partCount++;
            }
        }
    }

    /** What was put and released for each target, its editions and reasons, and the outcomes that are kept. */
    private static final class Store {
        private static final int NEVER = 0;
        private static final int NEW = 1;
        private static final int RULE = 2;
        private static final int COUNT = 3;
        private static final int LOST = 4;
        // This one and the next ones: another input, from input 0 on.
        private static final int INPUT = 5;

        private final Outcome[] put = new Outcome[MOST_TARGETS];
        private final Outcome[] released = new Outcome[MOST_TARGETS];
        private final int[][] editions = new int[MOST_TARGETS][3];
        private final int[] reasons = new int[MOST_TARGETS];
        // From the oldest one to the latest.
        private final Outcome[] kept;
        private int keptCount;

        Store(int room) {
            for (int t = 0; t < MOST_TARGETS; t++) {
                put[t] = new Outcome();
                released[t] = new Outcome();
            }
            kept = new Outcome[Math.max(room, 0)];
            for (int k = 0; k < kept.length; k++) {
                kept[k] = new Outcome();
            }
        }

        void clear() {
            for (int t = 0; t < MOST_TARGETS; t++) {
                put[t].clear();
                released[t].clear();
                reasons[t] = NEVER;
            }
            keptCount = 0;
        }

        int find(long key) {
            for (int k = 0; k < keptCount; k++) {
                if (kept[k].key == key) {
                    return k;
                }
            }
            return -1;
        }

        /** Keeps an outcome at the end, in place of the one of the same key, or of the oldest when all room is used. */
        void keep(Outcome made) {
            if (kept.length == 0) {
                return;
            }
            int place = find(made.key);
            if (place < 0 && keptCount < kept.length) {
                place = keptCount;
                keptCount++;
            }
            place = Math.max(place, 0);
            Outcome moved = kept[place];
            for (int k = place; k + 1 < keptCount; k++) {
                kept[k] = kept[k + 1];
            }
            kept[keptCount - 1] = moved;
            moved.takeResult(made);
            moved.key = made.key;
        }

        boolean hasPut(int t) {
            return t >= 0 && t < MOST_TARGETS && put[t].built;
        }

        void tellPut(int t, boolean face, Row out) {
            if (hasPut(t)) {
                out.addTold(face ? put[t].face : put[t].output);
            } else {
                out.addText("none");
            }
        }

        /** Sets why a target's action is worked, from its parts against those of what was put. */
        void setReason(int t, Outcome action) {
            if (t < 0 || t >= MOST_TARGETS) {
                return;
            }
            Outcome before = put[t];
            int reason = LOST;
            for (int i = action.partCount - 1; i > 0; i--) {
                reason = action.parts[i] != before.parts[i] ? INPUT + i - 1 : reason;
            }
            reason = action.partCount != before.partCount ? COUNT : reason;
            reason = action.parts[0] != before.parts[0] ? RULE : reason;
            reasons[t] = before.built ? reason : NEW;
        }

        void tellReason(int t, Row out) {
            int reason = t >= 0 && t < MOST_TARGETS ? reasons[t] : NEVER;
            switch (reason) {
                case NEVER: out.addText("never"); break;
                case NEW: out.addText("new"); break;
                case RULE: out.addText("rule"); break;
                case COUNT: out.addText("inputs"); break;
                case LOST: out.addText("lost"); break;
                default:
                    out.addText("input ");
                    out.addNumber(reason - INPUT);
                    break;
            }
        }

        void release(int t, Row out) {
            if (!hasPut(t)) {
                return;
            }
            Outcome now = put[t];
            Outcome before = released[t];
            int[] edition = editions[t];
            // What goes up by one: 0 to 2; none with 3. What stands behind it begins again.
            int up = 3;
            if (!before.built) {
                Arrays.fill(edition, 0);
                up = 0;
            } else if (!now.face.hasLinesOf(before.face)) {
                up = 0;
            } else if (!before.face.hasLinesOf(now.face)) {
                up = 1;
            } else if (!now.output.sameAs(before.output)) {
                up = 2;
            } else {
                out.addText("same ");
            }
            for (int i = up; i < edition.length; i++) {
                edition[i] = i == up ? edition[i] + 1 : 0;
            }
            before.takeResult(now);
            tellEdition(t, out);
        }

        void tellEdition(int t, Row out) {
            if (t < 0 || t >= MOST_TARGETS || !released[t].built) {
                out.addText("none");
                return;
            }
            int[] edition = editions[t];
            for (int i = 0; i < edition.length; i++) {
                if (i > 0) {
                    out.add('.');
                }
                out.addNumber(edition[i]);
            }
        }
    }

    /** Works one action at a time: load its inputs, then ask for its parts, its size, or its outcome. */
    private static final class Workshop {
        // The signs of "pub ", as a name's.
        private static final long PUB = 0x7075622000000000L;

        private final Row nothing = new Row(0);
        private final Row[] inputs = new Row[MOST_INPUTS];
        // The inputs' bytes behind one another; each may need an end of line.
        private final Row joined = new Row(MOST_INPUTS * (MOST_OUTPUT + 1));
        // One byte above the room of an output: so what is too large is seen.
        private final Row out = new Row(MOST_OUTPUT + 1);
        private final Row scratch = new Row(1 + PATH_SIGNS + 1 + MOST_OUTPUT);
        private final int[] starts = new int[MOST_OUTPUT];
        private final int[] ends = new int[MOST_OUTPUT];
        // A source of 160 bytes has 40 lines at the most, a face of 600 bytes 150.
        private final long[] sourceNames = new long[MOST_INPUTS * 41];
        private final int[] sourceValues = new int[MOST_INPUTS * 41];
        private final boolean[] sourceOpen = new boolean[MOST_INPUTS * 41];
        private int sources;
        private final long[] faceNames = new long[MOST_INPUTS * 151];
        private final int[] faceValues = new int[MOST_INPUTS * 151];
        private int faces;

        Workshop() {
            for (int i = 0; i < MOST_INPUTS; i++) {
                inputs[i] = nothing;
            }
        }

        /** Takes the bytes that an action sees: of files theirs, of targets the output, or for compile the face. */
        void load(Plan plan, Outcome[] put, Definition d) {
            for (int i = 0; i < d.inputs; i++) {
                inputs[i] = nothing;
                if (d.ofTarget[i]) {
                    int u = plan.targetAt(d.heads[i]);
                    if (u >= 0 && u < put.length) {
                        inputs[i] = d.code == Definition.COMPILE ? put[u].face : put[u].output;
                    }
                } else {
                    int f = plan.fileAt(d.heads[i], d.tails[i]);
                    if (f >= 0) {
                        inputs[i] = plan.contents[f];
                    }
                }
            }
        }

        void setParts(Definition d, Outcome action) {
            scratch.clear();
            scratch.addName(d.rule);
            scratch.add('.');
            scratch.addName(d.word);
            action.addPart(scratch.digest());
            for (int i = 0; i < d.inputs; i++) {
                scratch.clear();
                scratch.add(d.ofTarget[i] ? 't' : 'f');
                scratch.addName(d.heads[i]);
                scratch.addName(d.tails[i]);
                scratch.add(LINE);
                scratch.addRow(inputs[i]);
                action.addPart(scratch.digest());
            }
            scratch.clear();
            for (int i = 0; i < action.partCount; i++) {
                scratch.addInt((int) (action.parts[i] >>> 32));
                scratch.addInt((int) action.parts[i]);
            }
            action.key = scratch.digest();
        }

        /** How many steps the action's work takes. */
        int steps(Definition d) {
            int bytes = 0;
            for (int i = 0; i < d.inputs; i++) {
                bytes += inputs[i].size();
            }
            return 2 + (bytes + 9) / 10;
        }

        void work(Definition d, Outcome action) {
            out.clear();
            action.why.clear();
            joinInputs(d);
            switch (d.code) {
                case Definition.SORT: sort(); break;
                case Definition.UNIQ: uniq(); break;
                case Definition.UPPER: upper(); break;
                case Definition.GREP: grep(d.word); break;
                case Definition.COUNT: count(); break;
                case Definition.DIGEST:
                    out.addHex(joined.digest());
                    out.add(LINE);
                    break;
                case Definition.COMPILE:
                    compile(d, action.why);
                    writeSources(false);
                    break;
                default: out.addRow(joined); break;
            }
            if (action.why.size() == 0 && out.size() > MOST_OUTPUT) {
                action.why.addText("too large");
            }
            action.built = action.why.size() == 0;
            if (action.built) {
                action.output.set(out, 0, out.size());
                if (d.code == Definition.COMPILE) {
                    writeSources(true);
                }
                action.face.set(out, 0, out.size());
            }
        }

        /** For sort, each input's last line is ended; else the inputs stand as they are. */
        private void joinInputs(Definition d) {
            joined.clear();
            for (int i = 0; i < d.inputs; i++) {
                Row input = inputs[i];
                joined.addRow(input);
                if (d.code == Definition.SORT && input.size() > 0 && input.at(input.size() - 1) != LINE) {
                    joined.add(LINE);
                }
            }
        }

        private void sort() {
            if (joined.size() > MOST_OUTPUT) {
                out.addRow(joined);
                return;
            }
            int lines = 0;
            int from = 0;
            while (from < joined.size() && lines < starts.length) {
                int end = joined.lineEnd(from);
                int k = lines;
                while (k > 0 && joined.order(starts[k - 1], ends[k - 1], joined, from, end) > 0) {
                    starts[k] = starts[k - 1];
                    ends[k] = ends[k - 1];
                    k--;
                }
                starts[k] = from;
                ends[k] = end;
                lines++;
                from = end + 1;
            }
            for (int k = 0; k < lines; k++) {
                out.addLine(joined, starts[k], ends[k]);
            }
        }

        private void uniq() {
            int from = 0;
            int before = -1;
            int beforeEnd = -1;
            while (from < joined.size()) {
                int end = joined.lineEnd(from);
                if (before < 0 || joined.order(before, beforeEnd, joined, from, end) != 0) {
                    out.addLine(joined, from, end);
                }
                before = from;
                beforeEnd = end;
                from = end + 1;
            }
        }

        private void upper() {
            for (int i = 0; i < joined.size(); i++) {
                int b = joined.at(i);
                out.add(b >= 'a' && b <= 'z' ? b - 'a' + 'A' : b);
            }
        }

        private void grep(long word) {
            scratch.clear();
            scratch.addName(word);
            int length = scratch.size();
            int from = 0;
            while (from < joined.size()) {
                int end = joined.lineEnd(from);
                int i = from;
                while (i + length <= end && joined.nameIn(i, i + length) != word) {
                    i++;
                }
                if (i + length <= end) {
                    out.addLine(joined, from, end);
                }
                from = end + 1;
            }
        }

        private void count() {
            int lines = 0;
            int from = 0;
            while (from < joined.size()) {
                from = joined.lineEnd(from) + 1;
                lines++;
            }
            out.addNumber(lines);
            out.add(LINE);
        }

        /** Reads all lines, inputs in order, up to the first that is not right: why tells it. */
        private void compile(Definition d, Row why) {
            sources = 0;
            faces = 0;
            for (int i = 0; i < d.inputs; i++) {
                Row input = inputs[i];
                int from = 0;
                int line = 0;
                while (from < input.size()) {
                    int end = input.lineEnd(from);
                    if (d.ofTarget[i] ? !readFace(input, from, end) : !readSource(input, from, end)) {
                        why.addText("bad ");
                        why.addNumber(i);
                        why.add(' ');
                        why.addNumber(line);
                        return;
                    }
                    from = end + 1;
                    line++;
                }
            }
        }

        private boolean readFace(Row row, int from, int end) {
            int nameEnd = row.wordEnd(from, NAME_SIGNS, '0');
            int numberEnd = row.numberEnd(nameEnd + 1);
            if (nameEnd == from || row.at(nameEnd) != '=' || numberEnd == nameEnd + 1 || numberEnd != end
                    || faces >= faceNames.length) {
                return false;
            }
            faceNames[faces] = row.nameIn(from, nameEnd);
            faceValues[faces] = row.numberIn(nameEnd + 1, numberEnd);
            faces++;
            return true;
        }

        private boolean readSource(Row row, int from, int end) {
            if (from == end) {
                return true;
            }
            boolean open = row.nameIn(from, from + 4) == PUB;
            int nameFrom = open ? from + 4 : from;
            int at = row.wordEnd(nameFrom, NAME_SIGNS, '0');
            long name = row.nameIn(nameFrom, at);
            if (at == nameFrom || row.at(at) != '=' || sourceAt(name) >= 0 || sources >= sourceNames.length) {
                return false;
            }
            int sum = 0;
            int product = 0;
            int first = at;
            // Each round stands on the sign ahead of a factor.
            while (at < end) {
                int sign = row.at(at);
                int factor = at + 1;
                int after = row.numberEnd(factor);
                int value = row.numberIn(factor, after);
                if (after == factor) {
                    after = row.wordEnd(factor, NAME_SIGNS, '0');
                    value = valueOf(row.nameIn(factor, after));
                }
                if (after == factor || value < 0 || at != first && sign != '+' && sign != '*') {
                    return false;
                }
                if (sign == '*') {
                    product = product * value % MODULUS;
                } else {
                    sum = (sum + product) % MODULUS;
                    product = value;
                }
                at = after;
            }
            sourceNames[sources] = name;
            sourceValues[sources] = (sum + product) % MODULUS;
            sourceOpen[sources] = open;
            sources++;
            return true;
        }

        private int sourceAt(long name) {
            for (int s = 0; s < sources; s++) {
                if (sourceNames[s] == name) {
                    return s;
                }
            }
            return -1;
        }

        /** A name's value: of the sources' lines up to here, else of the latest line of the faces up to here; -1. */
        private int valueOf(long name) {
            for (int s = 0; s < sources; s++) {
                if (sourceNames[s] == name) {
                    return sourceValues[s];
                }
            }
            for (int f = faces - 1; f >= 0; f--) {
                if (faceNames[f] == name) {
                    return faceValues[f];
                }
            }
            return -1;
        }

        /** Writes the lines of the sources, all or those with pub. */
        private void writeSources(boolean openOnly) {
            out.clear();
            for (int s = 0; s < sources; s++) {
                if (!openOnly || sourceOpen[s]) {
                    out.addName(sourceNames[s]);
                    out.add('=');
                    out.addNumber(sourceValues[s]);
                    out.add(LINE);
                }
            }
        }
    }

    /** A session: two workers build a target and what it needs, step by step, on a plan as it was at the start. */
    private static final class Session {
        private static final int BUILT = 1;
        private static final int FAILED = 2;
        // How an action comes to its outcome; these number the counts, too.
        private static final int WORKED = 0;
        private static final int USED = 1;
        private static final int AHEAD = 2;

        private final Workshop workshop;
        private final Store store;
        private final Plan plan = new Plan();
        private boolean going;
        private int steps;
        private final int[] needed = new int[MOST_TARGETS];
        // For each target: 0 when it is not done, BUILT or FAILED.
        private final int[] ends = new int[MOST_TARGETS];
        // For each worker: its target (-1 without one), the steps that are left, the way to its outcome, and that.
        private final int[] holds = {-1, -1};
        private final int[] left = new int[WORKERS];
        private final int[] ways = new int[WORKERS];
        private final Outcome[] benches = new Outcome[WORKERS];
        private final int[] runs = new int[MOST_TARGETS];
        private int runCount;
        private final int[] counts = new int[3];
        // The lowest target that failed, -1 without one, and why.
        private int failed = -1;
        // There was nothing to take, and nothing was done since: so there is nothing to take.
        private boolean dry;
        private final Row failure = new Row(24);

        Session(Workshop workshop, int keptRoom) {
            this.workshop = workshop;
            store = new Store(keptRoom);
            for (int w = 0; w < WORKERS; w++) {
                benches[w] = new Outcome();
            }
        }

        void clear() {
            store.clear();
            Arrays.fill(counts, 0);
            plan.clear();
            reset();
            going = false;
        }

        private void reset() {
            steps = 0;
            Arrays.fill(needed, 0);
            Arrays.fill(ends, 0);
            Arrays.fill(holds, -1);
            runCount = 0;
            failed = -1;
            dry = false;
        }

        void begin(Plan now, int t) {
            reset();
            plan.copyFrom(now);
            plan.markNeeds(t, needed);
            going = t >= 0;
        }

        void stop() {
            going = false;
            Arrays.fill(holds, -1);
        }

        /** Does up to so many steps, while the session goes on. */
        void go(int most) {
            for (int i = 0; i < most && going; i++) {
                for (int w = 0; w < WORKERS; w++) {
                    if (holds[w] < 0 && !dry) {
                        take(w, choose());
                    }
                    if (holds[w] < 0) {
                        continue;
                    }
                    left[w]--;
                    if (left[w] > 0) {
                        continue;
                    }
                    if (ways[w] == WORKED) {
                        Definition d = plan.definitions[holds[w]];
                        workshop.load(plan, store.put, d);
                        workshop.work(d, benches[w]);
                    }
                    finish(w);
                }
                steps++;
                going = holds[0] >= 0 || holds[1] >= 0 || !dry && choose() >= 0;
            }
        }

        /** The target that a worker takes next; -1 when there is nothing to take. */
        private int choose() {
            for (int t = 0; t < plan.targets; t++) {
                if (needed[t] == 1 && ends[t] == 0 && holds[0] != t && holds[1] != t && isReady(t)) {
                    return t;
                }
            }
            return -1;
        }

        /** Whether all inputs of a target that are targets that are there are built. */
        private boolean isReady(int t) {
            for (int i = 0; i < MOST_INPUTS; i++) {
                int u = plan.inputTarget(t, i);
                if (u >= 0 && ends[u] != BUILT) {
                    return false;
                }
            }
            return true;
        }

        private void take(int w, int t) {
            if (t < 0 || t >= plan.targets) {
                dry = true;
                return;
            }
            Definition d = plan.definitions[t];
            Outcome bench = benches[w];
            bench.clear();
            holds[w] = t;
            left[w] = 1;
            if (plan.failsAhead(t, bench.why)) {
                ways[w] = AHEAD;
                return;
            }
            workshop.load(plan, store.put, d);
            workshop.setParts(d, bench);
            int k = store.find(bench.key);
            if (k >= 0) {
                ways[w] = USED;
                bench.takeResult(store.kept[k]);
                return;
            }
            ways[w] = WORKED;
            left[w] = workshop.steps(d);
            store.setReason(t, bench);
            if (runCount < runs.length) {
                runs[runCount] = t;
                runCount++;
            }
        }

        private void finish(int w) {
            int t = holds[w];
            Outcome bench = benches[w];
            holds[w] = -1;
            dry = false;
            counts[ways[w]]++;
            if (ways[w] != AHEAD) {
                store.keep(bench);
            }
            if (bench.built) {
                ends[t] = BUILT;
                store.put[t].takeResult(bench);
                store.put[t].takeParts(bench);
                return;
            }
            ends[t] = FAILED;
            if (failed < 0 || t < failed) {
                failed = t;
                failure.set(bench.why, 0, bench.why.size());
            }
        }

        int neededCount() {
            int count = 0;
            for (int t = 0; t < MOST_TARGETS; t++) {
                count += needed[t];
            }
            return count;
        }

        int doneCount() {
            int count = 0;
            for (int t = 0; t < MOST_TARGETS; t++) {
                count += ends[t] != 0 ? 1 : 0;
            }
            return count;
        }

        void tellEnd(Plan names, Row out) {
            if (going) {
                out.addText("on");
            } else if (failed < 0) {
                out.addText("built");
            } else {
                out.addText("failed ");
                out.addName(names.nameOf(failed));
                out.addText(": ");
                out.addRow(failure);
            }
        }

        void tellRuns(Plan names, Row out) {
            for (int i = 0; i < runCount; i++) {
                out.addName(names.nameOf(runs[i]));
                out.add(';');
            }
        }

        void tellWork(Row out) {
            for (int i = 0; i < counts.length; i++) {
                if (i > 0) {
                    out.add(' ');
                }
                out.addNumber(counts[i]);
            }
        }

        /** The lowest target that was built here and not so in the other store; -1 without one. */
        int lowestUnlike(Store other) {
            for (int t = 0; t < MOST_TARGETS; t++) {
                if (ends[t] == BUILT) {
                    Outcome here = store.put[t];
                    Outcome there = other.put[t];
                    if (!there.built || !here.output.sameAs(there.output) || !here.face.sameAs(there.face)) {
                        return t;
                    }
                }
            }
            return -1;
        }
    }

    /** The rules of outside parts, their solution, and trees that tell why there is none. */
    private static final class Versions {
        private static final int UNDECIDED = -1;
        // The places of a tree in which each part is decided once: 1, 4, 16, 64, 256, 1024.
        private static final int MOST_PLACES = 1365;
        // A right tree of d levels has 11 d + 3 bytes or more: the tape has no room for as many.
        private static final int LEVELS = REQUEST_ROOM / 8;

        private int rules;
        // A need's part; -1 for a wish.
        private final int[] ofPart = new int[MOST_RULES];
        private final int[] when = new int[MOST_RULES];
        private final int[] part = new int[MOST_RULES];
        private final int[] low = new int[MOST_RULES];
        private final int[] high = new int[MOST_RULES];
        // Of each part what is decided: 0 none, else its version.
        private final int[] values = new int[PARTS];
        private final int[] best = new int[PARTS];
        // For the ways in a tree that is judged: at each level the part, what it was ahead, and which tree it is in.
        private final int[] levelParts = new int[LEVELS];
        private final int[] levelValues = new int[LEVELS];
        private final int[] levelTrees = new int[LEVELS];

        void clear() {
            rules = 0;
        }

        /** Why a rule is refused: the numbers from a place on are Q, L, H; ahead of them P and V of a need. */
        String refusal(int[] numbers, int from) {
            boolean need = from > 0;
            int lowest = numbers[from + 1];
            int highest = numbers[from + 2];
            if (numbers[from] >= PARTS || need && numbers[0] >= PARTS) {
                return "no part";
            }
            if (lowest < 1 || highest > VERSIONS || lowest > highest
                    || need && (numbers[1] < 1 || numbers[1] > VERSIONS)) {
                return "no version";
            }
            return rules >= MOST_RULES ? "no room" : "";
        }

        void add(int[] numbers, int from, Row out) {
            if (rules >= MOST_RULES) {
                return;
            }
            boolean need = from > 0;
            ofPart[rules] = need ? numbers[0] : -1;
            when[rules] = need ? numbers[1] : 0;
            part[rules] = numbers[from];
            low[rules] = numbers[from + 1];
            high[rules] = numbers[from + 2];
            out.addText("rule ");
            out.addNumber(rules);
            rules++;
        }

        void removeLatest() {
            rules = Math.max(rules - 1, 0);
        }

        /** Whether a rule is broken by what is decided; what is not decided breaks none. */
        private boolean isBroken(int k) {
            if (k < 0 || k >= rules || ofPart[k] >= 0 && values[ofPart[k]] != when[k]) {
                return false;
            }
            int value = values[part[k]];
            return value != UNDECIDED && (value < low[k] || value > high[k]);
        }

        private int lowestBroken() {
            for (int k = 0; k < rules; k++) {
                if (isBroken(k)) {
                    return k;
                }
            }
            return -1;
        }

        /**
         * Whether there is a solution; it is the best one then. Parts are decided in order, from the greatest version
         * to none: so the first one of as many parts is the one to tell.
         */
        private boolean findSolution() {
            Arrays.fill(values, UNDECIDED);
            int fewest = PARTS + 1;
            int decided = 0;
            int there = 0;
            boolean more = true;
            for (int round = 0; more && round < MOST_PLACES; round++) {
                boolean right = there < fewest && lowestBroken() < 0;
                if (right && decided < PARTS) {
                    values[decided] = VERSIONS;
                    decided++;
                    there++;
                    continue;
                }
                if (right) {
                    System.arraycopy(values, 0, best, 0, PARTS);
                    fewest = there;
                }
                while (decided > 0 && values[decided - 1] == 0) {
                    decided--;
                    values[decided] = UNDECIDED;
                }
                more = decided > 0;
                if (more) {
                    values[decided - 1]--;
                    there -= values[decided - 1] == 0 ? 1 : 0;
                }
            }
            return fewest <= PARTS;
        }

        void tellRules(Row out) {
            for (int k = 0; k < rules; k++) {
                if (ofPart[k] < 0) {
                    out.add('w');
                } else {
                    out.add('n');
                    out.addNumber(ofPart[k]);
                    out.add(' ');
                    out.addNumber(when[k]);
                    out.add(' ');
                }
                out.addNumber(part[k]);
                out.add(' ');
                out.addNumber(low[k]);
                out.add(' ');
                out.addNumber(high[k]);
                out.add(';');
            }
        }

        void tellSolution(Row out) {
            if (!findSolution()) {
                out.addText("none");
                return;
            }
            for (int p = 0; p < PARTS; p++) {
                if (p > 0) {
                    out.add(' ');
                }
                out.add(best[p] == 0 ? '-' : '0' + best[p]);
            }
        }

        void tellMeets(int[] told, int count, Row out) {
            if (count != PARTS) {
                out.addText("five");
                return;
            }
            System.arraycopy(told, 0, values, 0, PARTS);
            int k = lowestBroken();
            if (k < 0) {
                out.addText("meets");
            } else {
                out.addText("broken ");
                out.addNumber(k);
            }
        }

        /** Tells the tree that shows that nothing meets the rules; parts are decided in order, as it wants. */
        void refute(Row out) {
            if (findSolution()) {
                out.addText("solved");
                return;
            }
            Arrays.fill(values, UNDECIDED);
            int decided = 0;
            boolean more = true;
            for (int round = 0; more && round < MOST_PLACES; round++) {
                int k = lowestBroken();
                if (k < 0 && decided < PARTS) {
                    out.add('?');
                    out.addNumber(decided);
                    values[decided] = 0;
                    decided++;
                } else {
                    out.add('!');
                    out.addNumber(Math.max(k, 0) / 10);
                    out.addNumber(Math.max(k, 0) % 10);
                    while (decided > 0 && values[decided - 1] == VERSIONS) {
                        decided--;
                        values[decided] = UNDECIDED;
                    }
                    more = decided > 0;
                    if (more) {
                        values[decided - 1]++;
                    }
                }
            }
        }

        /** Judges a right tree that begins at a place. */
        void disprove(Row tree, int from, Row out) {
            Arrays.fill(values, UNDECIDED);
            int level = 0;
            int leaves = 0;
            int at = from;
            while (at < tree.size()) {
                int digit = tree.at(at + 1) - '0';
                if (tree.at(at) == '?' && digit >= 0 && digit < PARTS && level < LEVELS) {
                    levelParts[level] = digit;
                    levelValues[level] = values[digit];
                    levelTrees[level] = 0;
                    values[digit] = 0;
                    level++;
                    at += 2;
                } else if (tree.at(at) == '!' && isBroken(digit * 10 + tree.at(at + 2) - '0')) {
                    leaves++;
                    at += 3;
                    level = goOn(level);
                } else {
                    out.addText("open ");
                    out.addNumber(leaves);
                    return;
                }
            }
            out.addText("refuted");
        }

        /** Goes from a leaf to the next tree of the lowest level that has one more; that level. */
        private int goOn(int leafLevel) {
            int level = leafLevel;
            while (level > 0 && levelTrees[level - 1] == VERSIONS) {
                level--;
                values[levelParts[level]] = levelValues[level];
            }
            if (level > 0) {
                levelTrees[level - 1]++;
                values[levelParts[level - 1]] = levelTrees[level - 1];
            }
            return level;
        }
    }

    /** The book: records of requests in a row of bytes, each with its length and its sum. */
    private static final class Book {
        private final byte[] bytes = new byte[BOOK_ROOM];
        private int used;
        // Where the latest record since the book was opened begins; -1 without one.
        private int latestAt = -1;
        private boolean shut;

        int at(int i) {
            return i >= 0 && i < BOOK_ROOM ? bytes[i] & 255 : -1;
        }

        void begin() {
            open(0);
        }

        /** Opens the book with the records ahead of a place; what is behind is gone. */
        void open(int end) {
            used = Math.min(Math.max(end, 0), BOOK_ROOM);
            Arrays.fill(bytes, used, BOOK_ROOM, (byte) 0);
            latestAt = -1;
            shut = false;
        }

        boolean fits(int length) {
            return length > 0 && length <= MOST_RECORD && used + length + 2 <= BOOK_ROOM;
        }

        void write(Row told) {
            int length = told.size();
            if (!fits(length)) {
                return;
            }
            latestAt = used;
            bytes[used] = (byte) length;
            for (int i = 0; i < length; i++) {
                bytes[used + 1 + i] = (byte) told.at(i);
            }
            bytes[used + 1 + length] = (byte) sum(told);
            used += length + 2;
        }

        private int sum(Row told) {
            int sum = 0;
            for (int i = 0; i < told.size(); i++) {
                sum = (sum + (i + 1) * told.at(i)) % 251;
            }
            return sum + 1;
        }

        /** Takes the bytes of the record at a place; false when it is not right. */
        boolean readRecord(int at, Row into) {
            int length = at(at);
            if (length < 1 || length > MOST_RECORD || at + length + 2 > BOOK_ROOM) {
                return false;
            }
            into.clear();
            for (int i = 0; i < length; i++) {
                into.add(at(at + 1 + i));
            }
            return at(at + 1 + length) == sum(into);
        }

        /** Leaves the first bytes of the latest record, and shuts the book; false when it can't. */
        boolean cut(int stay) {
            if (latestAt < 0 || stay < 0 || stay > used - latestAt) {
                return false;
            }
            Arrays.fill(bytes, latestAt + stay, used, (byte) 0);
            shut = true;
            return true;
        }

        boolean spoil(int i, int mask) {
            if (i < 0 || i >= BOOK_ROOM || mask < 1 || mask > 255) {
                return false;
            }
            bytes[i] = (byte) (bytes[i] ^ mask);
            shut = true;
            return true;
        }
    }
}
