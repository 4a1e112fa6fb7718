/** The edges of the book, its records, cut and mend, sentence by sentence. */
public final class EdgesOfBookTest {
    private static final int ROOM = 2048;

    public static void main(String[] args) {
        sums();
        records();
        houses();
        fits();
        fullBook();
        noRoomBehindAll();
        cuts();
        noCuts();
        cutAnywhere();
        pokedAnywhere();
        mendOfNothing();
        rightRecords();
        wrongRecords();
        lengths();
        housesAmong();
        shut();
        Talk.end();
    }

    private static String record(String request) {
        int sum = 0;
        for (int i = 0; i < request.length(); i++) {
            sum += (i + 1) * request.charAt(i);
        }
        return (char) request.length() + request + (char) (sum % 251 + 1);
    }

    private static String records(String... requests) {
        StringBuilder all = new StringBuilder();
        for (String request : requests) {
            all.append(record(request));
        }
        return all.toString();
    }

    /** Looks whether the book has these bytes, and 0 behind them. */
    private static void book(Talk talk, String bytes) {
        StringBuilder all = new StringBuilder();
        for (int i = 0; i < ROOM; i++) {
            all.append((char) talk.house.byteAt(i));
        }
        Talk.due("the book", all.toString(), bytes + "\0".repeat(ROOM - bytes.length()));
    }

    /** Pokes until the bytes from a place on are so. */
    private static void write(Talk talk, int from, String bytes) {
        for (int i = 0; i < bytes.length(); i++) {
            talk.house.poke(from + i, talk.house.byteAt(from + i) ^ bytes.charAt(i));
        }
    }

    /** A talk whose book has so many bytes, of puts of the file a. */
    private static Talk filled(int bytes) {
        Talk talk = new Talk();
        fill(talk, bytes);
        return talk;
    }

    /** Puts the file a until the book has so many bytes. */
    private static void fill(Talk talk, int bytes) {
        int left = bytes - talk.house.state(8);
        while (left > 0) {
            // "put a <>" and its record are 10 bytes: no fewer may be left.
            int size = left <= 170 ? left : Math.min(170, left - 10);
            talk.says("put a <" + "x".repeat(size - 10) + ">", "ok");
            left -= size;
        }
        talk.state(8, bytes);
    }

    /** How many records the open book has. */
    private static int count(Talk talk) {
        int count = 0;
        for (int at = 0; at < talk.house.state(8); at += talk.house.byteAt(at) + 2) {
            count++;
        }
        return count;
    }

    private static void sums() {
        Talk.sentence("a SUM: 1 more than the remainder by 251 of the sum over its bytes of (its place in the request, from 1 on) times the byte.");
        // The lowest and the greatest one: of the first request the sum is 3,263, 13 times 251; of the second one less.
        Talk talk = new Talk();
        talk.says("put cr <>", "ok");
        Talk.due("the sum of put cr <>", talk.house.byteAt(10), 1);
        talk.says("put dq <>", "ok");
        Talk.due("the sum of put dq <>", talk.house.byteAt(21), 251);
        talk.says("house", "ok");
        // 104 + 2 * 111 + 3 * 117 + 4 * 115 + 5 * 101 = 1642, less 6 * 251: 136.
        Talk.due("the sum of house", talk.house.byteAt(6), 137);
        // A long one: the places go on above 100.
        String request = "put abcdefghijkl <" + "~".repeat(160) + ">";
        talk.says(request, "ok");
        book(talk, record("house") + record(request));
        Talk.due("its length", talk.house.byteAt(7), 179);
    }

    private static void records() {
        Talk.sentence("THE BOOK has 2,048 bytes, all 0 at first. It has a RECORD for each request that was told and done, in order: its length (one byte, 1 to 200), its bytes,");
        Talk talk = new Talk();
        book(talk, "");
        Talk.due("byteAt(2047)", talk.house.byteAt(2047), 0);
        Talk.due("byteAt(2048)", talk.house.byteAt(2048), -1);
        String[] told = {"put a <x|>", "flag f 0", "target t=join(a)?f=0", "build t", "go 0", "go 1", "stop", "build t", "go 9999",
            "release t", "release t", "wish 0 1 1", "need 0 1 1 1 1", "unwish", "drop t", "gone a"};
        String due = "";
        for (String request : told) {
            // Asked, refused or bad: none of these is a record.
            for (String other : new String[] {"files", "show a", "targets", "output t", "face t", "why t", "runs", "work", "anew t",
                "needs t", "users a", "way t t", "longest t", "kept", "edition t", "rules", "solve", "meets 1", "refute",
                "disprove !00", "cut 999", "gone z", "target z=nope(a)", "target z=join(:z)", "drop z", "build z", "release z",
                "wish 5 1 1", "need 0 1 0 3 1", "", "put", "go 1.", "houses", "put a <x"}) {
                talk.tell(other);
            }
            book(talk, due);
            talk.tell(request);
            due += record(request);
            book(talk, due);
            talk.state(8, due.length());
        }
        talk.says("go 1", "no session").says("stop", "no session").says("unwish", "ok").says("unwish", "no rule");
        book(talk, due + record("unwish"));
        // Done is also a go that ends with what failed.
        talk.says("target t=join(a)", "ok").says("build t", "ok").says("go 2", "failed t: no file a");
        book(talk, due + records("unwish", "target t=join(a)", "build t", "go 2"));
    }

    private static void houses() {
        Talk.sentence("A house begins with an empty book (all bytes 0), and is its first record.");
        Talk talk = new Talk();
        talk.says("house", "ok").state(8, 7);
        book(talk, record("house"));
        talk.says("put a <x>", "ok").says("house", "ok").state(8, 7);
        book(talk, record("house"));
        // Of a book that is full, and of one that is shut.
        talk = filled(ROOM);
        talk.says("house", "ok").state(8, 7);
        book(talk, record("house"));
        talk.house.poke(2047, 255);
        talk.house.poke(3, 1);
        talk.says("house", "ok").state(8, 7);
        book(talk, record("house"));
        talk.says("mend", "1");
        book(talk, record("house"));
    }

    private static void fits() {
        Talk.sentence("A record that does not fit (also of a request of more than 200 bytes) is refused: \"no room\".");
        for (int left = 10; left <= 13; left++) {
            // "put b <>" needs 10 bytes, "put b <1>" 11.
            Talk talk = filled(ROOM - left);
            talk.says("put b <" + "1".repeat(left - 9) + ">", "no room").says("show b", "no file").state(8, ROOM - left);
            talk.says("put b <" + "1".repeat(left - 10) + ">", "ok").state(8, ROOM);
            Talk.due("the last sum", talk.house.byteAt(2047), (int) record("put b <" + "1".repeat(left - 10) + ">").charAt(left - 1));
            talk.eachSays("no room", "put b <>", "gone b", "flag f 0", "target t=join(b)", "wish 0 1 1").says("unwish", "no rule");
            talk.state(8, ROOM).state(0, 2).state(1, 0).state(2, 0);
        }
        // The shortest records: "stop" and "go 1" need 6 bytes.
        for (int left = 4; left <= 6; left++) {
            Talk talk = Talk.of("""
                put b <x> => ok
                target t=join(b) => ok
                build t => ok""");
            fill(talk, ROOM - left);
            talk.says("go 1", left < 6 ? "no room" : "on").state(4, left < 6 ? 0 : 1).state(3, 1);
            talk.says("stop", "no room").state(8, left < 6 ? ROOM - left : ROOM).says("go 0", "no room").state(3, 1);
        }
    }

    private static void fullBook() {
        Talk.sentence("what is refused does nothing");
        Talk talk = Talk.of("""
            put f <1> => ok
            target t=join(f) => ok
            wish 0 1 1 => rule 0
            build t => ok
            go 9 => built
            release t => 1.0.0
            put f <2> => ok
            build t => ok
            go 9 => built
            build t => ok""");
        fill(talk, ROOM);
        talk.state(8, ROOM).eachSays("no room", "put f <3>", "gone f", "flag g 1", "target t=sort(f)", "target u=sort(f)", "drop t",
            "go 1", "stop", "release t", "wish 0 1 1", "need 0 1 0 1 1", "unwish");
        talk.says("build t", "busy").says("show f", "2").says("targets", "t=join(f);").says("rules", "w0 1 1;");
        talk.says("edition t", "1.0.0").state(3, 1).state(4, 0).state(8, ROOM).says("mend", "" + count(talk)).state(8, ROOM).state(3, 1);
        talk.says("stop", "no room").says("house", "ok").says("stop", "no session");
    }

    private static void noRoomBehindAll() {
        Talk.sentence("\"no room\" of the book behind all others");
        Talk talk = filled(ROOM);
        talk.says("gone b", "no file").says("target t=nope(a)", "no rule").says("target t=grep(a)", "no word");
        talk.says("target t=join(:t)", "circle").says("drop t", "no target").says("build t", "no target").says("go 1", "no session");
        talk.says("stop", "no session").says("release t", "none").says("wish 5 1 1", "no part").says("need 0 1 0 2 1", "no version");
        talk.says("unwish", "no rule").says("put a <", "bad 7").says("cut 9999", "no cut").says("put b <>", "no room");
        talk.says("gone a", "no room").says("flag f 1", "no room").says("target t=join(a)", "no room").says("wish 0 1 1", "no room");
        talk.state(8, ROOM);
    }

    private static void cuts() {
        Talk.sentence("else the first N of these stay, the others are 0; the book is shut then (also when all stay): \"ok\".");
        String first = record("put a <1>");
        String latest = record("put b <2>");
        for (int stay = 0; stay <= latest.length(); stay++) {
            Talk talk = Talk.of("""
                put a <1> => ok
                put b <2> => ok""");
            talk.says("cut " + stay, "ok").state(8, -1).state(0, 2).says("files", "shut").says("cut 0", "shut");
            book(talk, first + latest.substring(0, stay));
            talk.says("mend", stay == latest.length() ? "2" : "1");
            book(talk, stay == latest.length() ? first + latest : first);
        }
    }

    private static void noCuts() {
        Talk.sentence("cut N: \"no cut\" when no record was written since the book was opened (by mend, or at the very beginning; a house's own record is written), or N is more than the latest one's bytes (2 more than its length)");
        Talk talk = new Talk();
        talk.says("cut 0", "no cut").says("files", "").says("gone a", "no file").says("cut 0", "no cut").says("mend", "0");
        talk.says("cut 0", "no cut").says("put a <1>", "ok").says("cut 12", "no cut").says("cut 13", "no cut").says("cut 9999", "no cut");
        talk.state(8, 11).says("gone b", "no file").says("cut 12", "no cut").says("cut 11", "ok").says("mend", "1");
        // The record that is there was written ahead of the mend.
        talk.says("cut 0", "no cut").says("cut 11", "no cut").says("cut 12", "no cut").state(8, 11);
        talk.says("flag f 1", "ok").says("cut 11", "no cut").says("cut 10", "ok").says("mend", "2").says("cut 0", "no cut");
        // A mend of an open book opens it, too.
        talk.says("flag f 2", "ok").says("mend", "3").says("cut 0", "no cut").says("cut 10", "no cut");
        // A house's own record, of 7 bytes; also of a house in a shut book.
        talk.says("house", "ok").says("cut 8", "no cut").says("cut 7", "ok").says("mend", "1").says("cut 7", "no cut");
        talk.house.poke(0, 1);
        talk.says("house", "ok").says("cut 8", "no cut").says("cut 0", "ok").says("house", "ok").says("cut 7", "ok");
        talk.says("house", "ok").state(8, 7).says("cut 6", "ok").says("mend", "0").state(8, 0).says("cut 0", "no cut");
        // The longest record: of 179 bytes and 2.
        talk.says("put abcdefghijkl <" + "~".repeat(160) + ">", "ok").says("cut 182", "no cut").says("cut 181", "ok").says("mend", "1");
    }

    /** A book of five records; the last byte of each stands ahead of these places. */
    private static final String[] FIVE = {"put a <x>", "target t=join(a)", "build t", "go 2", "wish 0 1 1"};
    private static final int[] FIVE_ENDS = {11, 29, 38, 44, 56};

    private static Talk five() {
        Talk talk = new Talk();
        for (String request : FIVE) {
            talk.tell(request);
        }
        return talk.state(8, 56);
    }

    private static int rightOnesAhead(int place) {
        int count = 0;
        while (count < 5 && FIVE_ENDS[count] <= place) {
            count++;
        }
        return count;
    }

    private static void mendedTo(Talk talk, int count) {
        String due = "";
        for (int k = 0; k < count; k++) {
            due += record(FIVE[k]);
        }
        talk.says("mend", "" + count).state(8, due.length());
        book(talk, due);
        talk.state(0, count > 0 ? 1 : 0).state(1, count > 1 ? 1 : 0).state(3, count > 2 ? 1 : 0).state(4, count > 3 ? 2 : 0);
        talk.state(2, count > 4 ? 1 : 0).state(11, count > 3 ? 0 : -1).state(12, -1).state(5, count > 2 ? 1 : 0);
    }

    private static void cutAnywhere() {
        Talk.sentence("then its records are done in order, as they were told (without writing), up to the first that is not right");
        // A cut of the latest record, of each number of bytes, in each house of one to five records.
        for (int count = 1; count <= 5; count++) {
            for (int stay = 0; stay <= FIVE[count - 1].length() + 2; stay++) {
                Talk talk = new Talk();
                for (int k = 0; k < count; k++) {
                    talk.tell(FIVE[k]);
                }
                talk.says("cut " + stay, "ok");
                mendedTo(talk, stay == FIVE[count - 1].length() + 2 ? count : count - 1);
                // Once more: it is as it was; and it goes on from there.
                mendedTo(talk, stay == FIVE[count - 1].length() + 2 ? count : count - 1);
                talk.says("put a <x>", "ok").says("mend", "" + (stay == FIVE[count - 1].length() + 2 ? count + 1 : count));
            }
        }
    }

    private static void pokedAnywhere() {
        Talk.sentence("all bytes from there on are 0 then, the book is open: how many records were done.");
        // One byte that is another one, wherever it stands: the record that has it is not right.
        Talk talk = five();
        for (int i = 0; i < ROOM; i = i < 80 ? i + 1 : i + 97) {
            for (int mask : new int[] {1, 2, 4, 8, 16, 32, 64, 128, 255}) {
                Talk.due("poke(" + i + ", " + mask + ")", talk.house.poke(i, mask), true);
                mendedTo(talk, rightOnesAhead(i));
                if (i < 56) {
                    talk = five();
                }
            }
        }
        talk = five();
        talk.house.poke(2047, 1);
        mendedTo(talk, 5);
        for (int mask = 1; mask < 256; mask++) {
            for (int i : new int[] {0, 5, 10, 38, 43, 44, 55, 56}) {
                Talk one = five();
                one.house.poke(i, mask);
                one.says("mend", "" + rightOnesAhead(i));
            }
        }
    }

    private static void mendOfNothing() {
        Talk.sentence("mend (whether the book is shut or not): all is as at first, but the book");
        Talk talk = new Talk();
        talk.says("mend", "0").state(8, 0).says("mend", "0");
        // A poke shuts the empty book; all of it is 0 again.
        talk.house.poke(0, 5);
        talk.house.poke(2047, 255);
        talk.state(8, -1).says("mend", "0").state(8, 0);
        book(talk, "");
        // What was in the house, but in no record, is no more.
        talk = five();
        write(talk, 0, "\0".repeat(56));
        talk.state(0, 1).state(2, 1);
        mendedTo(talk, 0);
        talk.says("files", "").says("targets", "").says("rules", "").says("work", "0 0 0").says("why t", "never").says("runs", "");
        talk.says("go 1", "no session").says("kept", "0");
    }

    private static void rightRecords() {
        Talk.sentence("up to the first that is not right: of no bytes or more than 200, beyond the end, with another sum, no right request of what is told (a house among them is one: all is as at first), or refused");
        // What is poked, and right, is done.
        String[] told = {"put a <x>", "target t=join(a)", "flag f 1", "build t", "go 1", "stop", "build t", "go 9", "release t", "wish 0 1 3",
            "need 0 1 1 1 1", "unwish", "drop t", "gone a"};
        Talk talk = new Talk();
        write(talk, 0, records(told));
        talk.state(8, -1).says("mend", "14");
        book(talk, records(told));
        talk.says("files", "").says("targets", "").says("output t", "x").says("edition t", "1.0.0").says("rules", "w0 1 3;");
        talk.says("work", "1 0 0").says("cut 0", "no cut");
    }

    private static void wrongRecords() {
        Talk.sentence("no right request of what is told (a house among them is one: all is as at first), or refused; all bytes from there on are 0 then");
        String[] wrong = {"files", "show a", "targets", "output t", "face t", "why t", "runs", "work", "anew t", "needs t", "users a",
            "way t t", "longest t", "kept", "edition t", "rules", "solve", "meets 1", "refute", "disprove !00", "cut 0", "mend",
            "put", "put a <", "houses", "hous", "go 00", "x", "\n", "\u00ff", "\0",
            "gone z", "drop z", "build z", "go 1", "stop", "release t", "unwish", "wish 5 1 1", "need 0 1 0 2 1",
            "target t=nope(a)", "target t=grep(a)", "target u=join(:u)"};
        for (String w : wrong) {
            Talk talk = new Talk();
            write(talk, 0, records("put a <x>", "target t=join(a)", w, "put b <y>"));
            talk.says("mend", "2").state(8, 29).says("files", "a 1;");
            book(talk, records("put a <x>", "target t=join(a)"));
        }
        // A sum that is one off, in each direction, and the others.
        for (int sum = 0; sum < 256; sum++) {
            Talk talk = new Talk();
            String right = record("put b <y>");
            write(talk, 0, record("put a <x>") + right.substring(0, 10) + (char) sum + record("put c <z>"));
            talk.says("mend", sum == right.charAt(10) ? "3" : "1");
        }
    }

    private static void lengths() {
        Talk.sentence("of no bytes or more than 200, beyond the end, with another sum");
        // No bytes, with the sum of none, which is 1, and with others.
        for (String none : new String[] {"\0\1", "\0\0", "\0" + "\1".repeat(9)}) {
            Talk talk = new Talk();
            write(talk, 0, record("put a <x>") + none + record("put b <y>"));
            talk.says("mend", "1").state(8, 11);
            book(talk, record("put a <x>"));
        }
        // 200, 201 and 255 bytes with their sums: none of these is a right request.
        for (int length : new int[] {180, 199, 200, 201, 255}) {
            for (String begun : new String[] {"put abcdefghijkl <" + "~".repeat(160) + ">", "x", "house", "put a <" + "x".repeat(160)}) {
                Talk talk = new Talk();
                write(talk, 0, record("put a <x>") + record(begun + " ".repeat(length - begun.length())) + record("put b <y>"));
                talk.says("mend", "1").state(8, 11);
                book(talk, record("put a <x>"));
            }
        }
        // The longest right one is of 179.
        Talk longest = new Talk();
        write(longest, 0, record("put abcdefghijkl <" + "~".repeat(160) + ">") + record("put b <y>"));
        longest.says("mend", "2").state(8, 192);
        // To the last byte, and beyond it by one to many.
        String last = record("put b <12345>");
        for (int left = 1; left <= 16; left++) {
            Talk talk = filled(ROOM - left);
            int count = count(talk);
            int fits = left < last.length() ? 0 : 1;
            write(talk, ROOM - left, last.substring(0, Math.min(left, last.length())));
            talk.says("mend", "" + (count + fits)).state(8, ROOM - left + fits * last.length());
        }
        // A length in the last byte; one that goes just beyond, whose sum would be there.
        Talk talk = filled(ROOM - 1);
        int count = count(talk);
        talk.house.poke(2047, 1);
        talk.says("mend", "" + count).state(8, ROOM - 1);
        Talk.due("byteAt(2047)", talk.house.byteAt(2047), 0);
    }

    private static void housesAmong() {
        Talk.sentence("(a house among them is one: all is as at first)");
        Talk talk = new Talk();
        String[] told = {"put a <x>", "wish 0 1 1", "target t=join(a)", "build t", "go 9", "house", "put b <y>", "house", "flag f 1", "put c <>"};
        write(talk, 0, records(told));
        talk.says("mend", "10").says("files", "c 0;").says("rules", "").says("targets", "").says("work", "0 0 0").says("output t", "none");
        talk.state(3, 0).state(7, 0);
        // The book is as it was, with what is ahead of a house.
        book(talk, records(told));
        talk.state(8, records(told).length()).says("target t=join(a)", "ok").says("targets", "t=join(a);");
        // A house as the first, the last, and alone.
        talk = new Talk();
        write(talk, 0, records("house", "put a <x>", "house"));
        talk.says("mend", "3").says("files", "").state(8, 25);
        talk.says("cut 0", "no cut").says("put a <x>", "ok").says("cut 0", "ok").says("mend", "3").says("files", "");
        talk = new Talk();
        talk.says("house", "ok").says("mend", "1").state(8, 7);
    }

    private static void shut() {
        Talk.sentence("\"shut\": the book is cut or was poked, and the request is neither mend nor house.");
        for (boolean cut : new boolean[] {true, false}) {
            Talk talk = five();
            if (cut) {
                talk.says("cut 12", "ok");
            } else {
                Talk.due("poke", talk.house.poke(2000, 1), true);
            }
            talk.eachSays("shut", "put a <y>", "gone z", "flag f 1", "target z=nope(a)", "drop z", "build z", "go 1", "stop", "release t",
                "wish 9 9 9", "need 0 1 0 1 1", "unwish", "files", "show z", "targets", "output t", "face t", "why t", "runs", "work",
                "anew z", "needs z", "users a", "way z z", "longest z", "kept", "edition t", "rules", "solve", "meets 1", "refute",
                "disprove !00", "cut 0", "cut 9999");
            talk.state(8, -1);
            mendedTo(talk, 5);
            talk.says("files", "a 1;");
        }
    }
}
