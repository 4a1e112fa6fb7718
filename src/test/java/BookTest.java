import java.util.Arrays;

/** Promise 3: the book's records, cut and mend, and what is done while it is shut. */
public final class BookTest {
    public static void main(String[] args) {
        records();
        full();
        cuts();
        mends();
        pokedRecords();
        replays();
        Talk.end();
    }

    private static String bytes(Talk talk, int from, int end) {
        StringBuilder all = new StringBuilder();
        for (int i = from; i < end; i++) {
            all.append((char) talk.house.byteAt(i));
        }
        return all.toString();
    }

    private static String record(String request) {
        int sum = 0;
        for (int i = 0; i < request.length(); i++) {
            sum += (i + 1) * request.charAt(i);
        }
        return (char) request.length() + request + (char) (sum % 251 + 1);
    }

    /** Pokes until the bytes from a place on are so. */
    private static void write(Talk talk, int from, String bytes) {
        for (int i = 0; i < bytes.length(); i++) {
            talk.house.poke(from + i, talk.house.byteAt(from + i) ^ bytes.charAt(i));
        }
    }

    private static void records() {
        Talk talk = new Talk();
        String[] told = {"put a <x|y>", "flag f 0", "target t=join(a)", "build t", "go 1", "go 99", "release t",
            "release t", "build t", "stop", "wish 0 1 1", "need 0 1 1 1 1", "unwish", "drop t", "gone a"};
        StringBuilder due = new StringBuilder();
        for (String request : told) {
            talk.tell(request);
            due.append(record(request));
            // What is asked or refused leaves no record.
            for (String other : new String[] {"files", "mende", "gone z", "go 1x", "release z", "drop z", "anew t",
                "solve", "targets", "target x=nope(a)", "wish 5 1 1", "put", "build z"}) {
                talk.tell(other);
            }
        }
        Talk.due("the records", bytes(talk, 0, due.length() + 3), due + "\0\0\0");
        talk.state(8, due.length());
        // A session that failed is done, too.
        talk.says("target t=join(z)", "ok").says("build t", "ok").says("go 7", "failed t: no file z");
        due.append(record("target t=join(z)")).append(record("build t")).append(record("go 7"));
        Talk.due("the records", bytes(talk, 0, due.length() + 3), due + "\0\0\0");
        talk.says("house", "ok");
        Talk.due("the records of a house", bytes(talk, 0, 2048), record("house") + "\0".repeat(2041));
    }

    private static void full() {
        // 12 records of 168 are 2,016 bytes; then 32 are left.
        Talk talk = new Talk();
        String text = "x".repeat(158);
        for (int i = 0; i < 12; i++) {
            talk.says("put a <" + text + ">", "ok");
        }
        talk.state(8, 2016);
        talk.says("put b <" + "y".repeat(23) + ">", "no room").says("show b", "no file").state(8, 2016);
        // Other refusals are ahead of the book's.
        talk.says("gone zzzzzzzzzzzz", "no file").says("target aaaaaaaa=join(bbbbbbbbbbbb,cccccccccccc)", "no room");
        talk.says("target aaaaaaaa=nope(bbbbbbbbbbbb,cccccccccccc)", "no rule").state(1, 0);
        talk.says("put b <" + "y".repeat(21) + ">", "ok").state(8, 2047);
        talk.says("unwish", "no rule").says("stop", "no session").says("house1", "bad 5");
        Talk.due("the last bytes", bytes(talk, 2015, 2048).substring(32), "\0");
        talk.says("mend", "13").says("show b", "y".repeat(21)).state(8, 2047);

        // To the last byte.
        talk = new Talk();
        for (int i = 0; i < 12; i++) {
            talk.says("put a <" + text + ">", "ok");
        }
        talk.says("put b <" + "y".repeat(22) + ">", "ok").state(8, 2048).says("gone b", "no room").says("gone c",
            "no file").says("mend", "13").state(8, 2048).says("gone b", "no room");
        // A session that is on can't go on, and nothing is released.
        talk.says("house", "ok").says("target t=join(a)", "ok").says("put a <x>", "ok").says("build t", "ok");
        talk.says("go 99", "built").says("build t", "ok");
        for (int i = 0; i < 11; i++) {
            talk.says("put a <" + text + ">", "ok");
        }
        // 61 and 1,848 bytes are used: 139 are left, and now two.
        talk.says("put b <" + "x".repeat(127) + ">", "ok").state(8, 2046);
        talk.says("go 5", "no room").says("stop", "no room").says("release t", "no room").says("edition t", "none");
        talk.state(3, 1).state(4, 0);
    }

    private static void cuts() {
        Talk talk = new Talk();
        talk.says("cut 0", "no cut").says("mend", "0").says("cut 0", "no cut");
        talk.says("put a <x>", "ok").says("put b <y>", "ok").says("cut 12", "no cut").says("cut 9999", "no cut");
        // The first bytes stay, the others are 0; and what is there stays as it was.
        talk.says("cut 4", "ok").state(8, -1).state(0, 2);
        Talk.due("the book", bytes(talk, 0, 2048), record("put a <x>") + record("put b <y>").substring(0, 4)
            + "\0".repeat(2048 - 15));
        talk.eachSays("shut", "files", "put a <z>", "cut 0", "cut 1", "go 1", "solve", "meets 1", "stop", "unwish");
        talk.says("mend", "1").state(8, 11).state(0, 1).says("show a", "x").says("show b", "no file");
        Talk.due("the book", bytes(talk, 0, 2048), record("put a <x>") + "\0".repeat(2037));
        // The record that is there was not written since.
        talk.says("cut 0", "no cut").says("put c <>", "ok").says("gone z", "no file").says("files", "a 1;c 0;");
        talk.says("cut 10", "ok").says("mend", "2").says("cut 0", "no cut");

        // All stays: shut nevertheless, and all is done again.
        talk.says("put d <1>", "ok").says("cut 11", "ok").state(8, -1).says("files", "shut").says("mend", "3");
        talk.says("files", "a 1;c 0;d 1;");
        // Nothing stays of it; its length alone; all but its sum.
        for (int stay : new int[] {0, 1, 10}) {
            talk.says("put e <1>", "ok").says("cut " + stay, "ok").says("mend", "3").says("show e", "no file");
        }
        // A house's own record.
        talk.says("house", "ok").says("cut 8", "no cut").says("cut 7", "ok").says("mend", "1");
        talk.says("house", "ok").says("cut 6", "ok").says("mend", "0").state(8, 0);
        // A house opens the book that is shut.
        talk.says("put a <x>", "ok").says("cut 3", "ok").says("house", "ok").says("files", "").state(8, 7);
        talk.says("cut 7", "ok").says("house", "ok").says("cut 0", "ok").says("house", "ok").state(8, 7);
    }

    private static void mends() {
        // An open book is mended, too: a session goes on as far as it was told.
        Talk talk = Talk.of("""
            put a <x> => ok
            target t=join(a) => ok
            target u=upper(:t) => ok
            flag f 3 => ok
            wish 1 2 3 => rule 0
            build u => ok
            go 4 => on""".stripIndent());
        int used = talk.house.state(8);
        talk.says("mend", "7").state(8, used).state(3, 1).state(4, 4).state(5, 2).state(6, 1).state(11, -1);
        talk.state(12, 1).state(7, 1).state(0, 1).state(1, 2).state(2, 1);
        talk.says("output t", "x").says("runs", "t;u;").says("why u", "new").says("work", "1 0 0");
        talk.says("go 9", "built").says("output u", "X").says("work", "2 0 0");
        talk.says("build u", "ok").says("go 9", "built").says("work", "2 2 0").says("mend", "10");
        talk.says("work", "2 2 0").says("targets", "t=join(a);u=upper(:t);").says("rules", "w1 2 3;");
        // Records with | are told as they were.
        talk.says("put b <1|2|>", "ok").says("mend", "11").says("show b", "1|2|");
        // The tape is gone, the answer is how many.
        Talk.due("the answer", talk.house.state(10), 4);
        talk.feed("mend    ");
        Talk.due("mend of a longer tape", talk.house.ask(4), 2);
        talk.state(9, 0);
    }

    private static void pokedRecords() {
        // A sum that is off, in the middle: what is behind is gone.
        Talk talk = Talk.of("""
            put a <x> => ok
            put b <y> => ok
            put c <z> => ok""".stripIndent());
        talk.house.poke(11 + 8, 1);
        talk.says("mend", "1").says("files", "a 1;").state(8, 11);
        Talk.due("the book", bytes(talk, 0, 2048), record("put a <x>") + "\0".repeat(2037));

        // What is right by its sum is done: other bytes, a house among them, with what is behind.
        talk = Talk.of("""
            put a <x> => ok
            wish 0 1 1 => rule 0
            put b <y> => ok""".stripIndent());
        write(talk, 0, record("put b <1>"));
        talk.says("mend", "3").says("files", "b 1;").says("show b", "y").says("rules", "w0 1 1;");
        write(talk, 0, record("house") + record("gone"));
        talk.says("mend", "1").says("rules", "").state(8, 7);
        write(talk, 7, record("put a <x>") + record("wish 0 1 1") + record("house") + record("put c <2>"));
        talk.says("mend", "5").says("files", "c 1;").says("rules", "").state(8, 7 + 11 + 12 + 7 + 11);
        // A house in the middle leaves the book as it is.
        Talk.due("the book", bytes(talk, 0, 49), record("house") + record("put a <x>") + record("wish 0 1 1")
            + record("house") + record("put c <2>") + "\0");

        // Not right: what is asked, what is refused, wrong bytes, a length of more than 200.
        for (String wrong : new String[] {"files", "mend", "cut 0", "gone z", "unwish", "go 1", "put z <z", "build z",
            "wish 5 1 1", "target t=grep(a)", "solve", "\u00ff\u00fe", "x".repeat(200)}) {
            talk = Talk.of("put a <x> => ok");
            write(talk, 11, record(wrong) + record("put b <y>"));
            talk.says("mend", "1").says("files", "a 1;").state(8, 11);
            Talk.due("what is behind " + wrong, bytes(talk, 11, 2048), "\0".repeat(2037));
        }
        talk = Talk.of("put a <x> => ok");
        write(talk, 11, record("x".repeat(201)));
        talk.says("mend", "1");
        write(talk, 11, "\u00c9" + "put b <y>");
        talk.says("mend", "1");
        write(talk, 11, "\u00c8" + "put b <y>");
        talk.says("mend", "1");

        // Beyond the end.
        talk = new Talk();
        String text = "x".repeat(158);
        for (int i = 0; i < 12; i++) {
            talk.says("put a <" + text + ">", "ok");
        }
        String last = record("put b <" + "y".repeat(22) + ">");
        write(talk, 2016, last);
        talk.says("mend", "13").state(8, 2048);
        write(talk, 2016, (char) (last.charAt(0) + 1) + last.substring(1));
        talk.says("mend", "12").state(8, 2016);
        // A length in the last byte.
        write(talk, 2016, record("put b <" + "y".repeat(21) + ">") + "\1");
        talk.says("mend", "13").state(8, 2047);
    }

    /** Whatever was told, a mend of all records comes to the same house. */
    private static void replays() {
        Talk talk = Talk.of("""
            house => ok
            put a <pub x=1|> => ok
            target t=compile(a) => ok
            build t => ok
            go 9 => built
            release t => 1.0.0
            put a <pub y=1|> => ok
            build t => ok
            go 9 => built
            release t => 2.0.0
            drop t => ok
            target u=join(a) => ok
            build u => ok
            go 2 => on
            stop => ok
            flag g 1 => ok
            wish 0 1 3 => rule 0
            wish 1 1 3 => rule 1
            unwish => ok""".stripIndent());
        String before = look(talk);
        talk.says("mend", "19");
        Talk.due("the house", look(talk), before);
        for (int i = 0; i < 3; i++) {
            talk.house.poke(1700 + i, 7);
            talk.says("mend", "19");
            Talk.due("the house", look(talk), before);
        }
    }

    private static String look(Talk talk) {
        StringBuilder all = new StringBuilder(Arrays.toString(bytes(talk, 0, 2048).getBytes()));
        for (int what = 0; what < 10; what++) {
            all.append(' ').append(talk.house.state(what));
        }
        for (String asked : new String[] {"files", "targets", "output t", "face t", "output u", "why t", "why u", "runs",
            "work", "kept", "edition t", "rules", "solve", "users a", "anew u"}) {
            all.append(' ').append(talk.tell(asked));
        }
        return all.toString();
    }
}
