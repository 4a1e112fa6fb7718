/** The edges that promises 1 to 8 name, sentence by sentence. */
public final class EdgesOfCallsTest {
    private static final int MIN = Integer.MIN_VALUE;
    private static final int MAX = Integer.MAX_VALUE;

    public static void main(String[] args) {
        newObject();
        fed();
        fullTape();
        asked();
        answers();
        disproves();
        states();
        statesWhenShut();
        bytesOfBook();
        pokes();
        Talk.end();
    }

    private static void newObject() {
        Talk.sentence("No files, targets, rules, an empty book; nothing on the tape; no answer.");
        Talk talk = new Talk();
        talk.state(0, 0).state(1, 0).state(2, 0).state(8, 0).state(9, 0).state(10, 0);
        Talk.due("answer(0)", talk.house.answer(0), -1);
        for (int i = 0; i < 2048; i++) {
            Talk.due("byteAt(" + i + ")", talk.house.byteAt(i), 0);
        }
        talk.says("files", "").says("targets", "").says("rules", "");
        // The book has no record, not even a house's.
        Talk.due("mend's answer", new Talk().tell("mend"), "0");
    }

    private static void fed() {
        Talk.sentence("Twenty bytes come behind those on the tape: four of each number, the highest first: how many there are.");
        BuildHouse x = new BuildHouse();
        Talk.due("feed", x.feed(0x70757420, 0x61203c30, 0x31323334, 0x35363738, 0x39414243), 20);
        Talk.due("feed behind it", x.feed(0x44454647, 0x3e000000, -1, MIN, MAX), 40);
        Talk.due("ask", x.ask(25), 2);
        Talk.due("what is on the tape", x.state(9), 0);
        x.feed(0x73686f77, 0x20610000, 0, 0, 0);
        Talk.due("ask", x.ask(6), 17);
        for (int i = 0; i < 17; i++) {
            Talk.due("answer(" + i + ")", x.answer(i), (int) "0123456789ABCDEFG".charAt(i));
        }
        // The bytes of -1 are 255 each; of the lowest number 128, 0, 0, 0: "files" ends where they begin.
        for (int wrong : new int[] {-1, MIN, 0x7fffffff, 0}) {
            x.feed(0x66696c65, 0x73000000 | wrong >>> 8, wrong << 24, 0, 0);
            Talk.due("ask", x.ask(6), 5);
            Talk.due("the wrong byte's place", x.answer(4), (int) '5');
        }
    }

    private static void fullTape() {
        Talk.sentence("-1, doing nothing, when there would be more than 4,000.");
        Talk talk = new Talk();
        // The longest tree that may be begun: "disprove ", 1,995 times ?0, and a ?.
        talk.feed("disprove " + "?0".repeat(1985) + "?");
        talk.state(9, 3980);
        Talk.due("the feed that fills it", talk.house.feed(0x303f303f, 0x303f303f, 0x303f303f, 0x303f303f, 0x303f303f), 4000);
        for (int i = 0; i < 3; i++) {
            Talk.due("a feed beyond 4,000", talk.house.feed(0x21212121, 0x21212121, 0x21212121, 0x21212121, 0x21212121), -1);
            talk.state(9, 4000);
        }
        Talk.due("ask(4001)", talk.house.ask(4001), -1);
        // Nothing of what was refused is there, and nothing of it changed what was.
        Talk.due("ask(4000)", talk.house.ask(4000), 8);
        Talk.due("its answer", talk.answer(), "bad 4000");
        Talk.due("a feed when the tape is gone", talk.house.feed(0, 0, 0, 0, 0), 20);
    }

    private static void asked() {
        Talk.sentence("-1, doing nothing, when n is below 0 or more than there are.");
        Talk talk = new Talk();
        for (int n : new int[] {1, 20, -1, MIN, MAX}) {
            Talk.due("ask(" + n + ") of an empty tape", talk.house.ask(n), -1);
        }
        talk.state(10, 0);
        talk.says("show a", "no file").feed("files");
        for (int n : new int[] {21, 4000, 4001, MAX, -1, -20, MIN}) {
            Talk.due("ask(" + n + ") of twenty bytes", talk.house.ask(n), -1);
        }
        Talk.due("the answer stays", talk.answer(), "no file");
        talk.state(9, 20);
        // All twenty are a request, of which the first 0 byte is wrong.
        Talk.due("ask(20)", talk.house.ask(20), 5);
        Talk.due("its answer", talk.answer(), "bad 5");

        Talk.sentence("The first n bytes of the tape are a request (all of the tape is gone then)");
        talk.feed("files and more that is long");
        Talk.due("ask(5)", talk.house.ask(5), 0);
        talk.state(9, 0);
        Talk.due("ask(1)", talk.house.ask(1), -1);
        for (int fed = 0; fed < 2; fed++) {
            Talk.due("ask(0)", talk.house.ask(0), 5);
            Talk.due("its answer", talk.answer(), "bad 0");
            talk.state(9, 0);
            talk.feed("files");
        }
        Talk.sentence("it is answered: how many bytes the answer has");
        talk.says("files", "").state(10, 0).says("put a <12>", "ok").state(10, 2).says("show a", "12").state(10, 2);
        talk.says("disprove " + "?0".repeat(360), "bad 729").state(10, 7);
    }

    private static void answers() {
        Talk.sentence("Byte i of the latest answer; -1 when there is none.");
        Talk talk = new Talk();
        noAnswers(talk, 0, 1, -1, MIN, MAX);
        talk.says("show a", "no file");
        Talk.due("answer(0)", talk.house.answer(0), (int) 'n');
        Talk.due("answer(6)", talk.house.answer(6), (int) 'e');
        noAnswers(talk, 7, 8, -1, 4000, 4095, 4096, 4097, MIN, MAX);
        // A shorter one, and one of no bytes: nothing of the one before is left.
        talk.says("unwish", "no rule").says("put a <>", "ok");
        noAnswers(talk, 2, 3, 6, -1);
        talk.says("show a", "");
        noAnswers(talk, 0, 1, -1);
        // All signs that a file can have; 10 is told as |.
        StringBuilder signs = new StringBuilder();
        for (char c = 32; c < 127; c++) {
            signs.append(c == '>' ? "" : "" + c);
        }
        talk.says("put a <" + signs + ">", "ok").says("show a", signs.toString());
        noAnswers(talk, 94, 95);
    }

    private static void noAnswers(Talk talk, int... places) {
        for (int i : places) {
            Talk.due("answer(" + i + ")", talk.house.answer(i), -1);
        }
    }

    private static void disproves() {
        Talk.sentence("\"disprove\", a blank and the latest answer (nothing, without one) are a request: it is answered, and that is the latest answer then: how many bytes it has.");
        Talk talk = new Talk();
        judges(talk, "bad 9");
        talk.says("files", "");
        judges(talk, "bad 9");
        // "bad 9" is an answer, too: its b is the wrong byte.
        judges(talk, "bad 9");
        talk.says("wish 4 1 1", "rule 0").says("wish 4 2 2", "rule 1");
        judges(talk, "bad 9");
        // The longest answer that there is: 341 parts and 1,024 leaves, 3,754 bytes.
        String four = "?4!00!01!00!00";
        String tree = "?0" + ("?1" + ("?2" + ("?3" + four.repeat(4)).repeat(4)).repeat(4)).repeat(4);
        Talk.due("its length", tree.length(), 3754);
        talk.says("refute", tree);
        judges(talk, "refuted");
        talk.says("refute", tree);
        talk.says("disprove " + tree, "refuted");
        talk.says("disprove " + tree.substring(0, 3753), "bad 3762").says("disprove " + tree + "!", "bad 3763");
        // What is judged is judged by the rules of now.
        talk.says("unwish", "ok").says("unwish", "ok").says("wish 4 1 3", "rule 0").says("wish 4 2 3", "rule 1");
        talk.says("need 4 3 4 1 2", "rule 2").says("need 4 2 4 3 3", "rule 3");
        talk.says("disprove " + tree, "open 2").says("refute", tree.replace(four, "?4!00!01!03!02"));
        judges(talk, "refuted");

        Talk.sentence("The tape stays.");
        talk.feed("house");
        judges(talk, "bad 9");
        talk.state(9, 20);
        Talk.due("ask of the tape that stayed", talk.house.ask(5), 2);
        talk.says("rules", "");

        Talk.sentence("\"shut\": the book is cut or was poked, and the request is neither mend nor house.");
        talk.says("wish 0 1 1", "rule 0").says("wish 0 2 2", "rule 1").says("refute", "?0!00!01!00!00");
        talk.house.poke(2047, 1);
        judges(talk, "shut");
        judges(talk, "bad 9");
    }

    private static void judges(Talk talk, String due) {
        Talk.due("disproveAnswer", talk.house.disproveAnswer(), due.length());
        Talk.due("its answer", talk.answer(), due);
        talk.state(10, due.length());
    }

    private static void states() {
        Talk.sentence("-1 for others.");
        Talk talk = new Talk();
        for (int what : new int[] {-1, -2, 13, 14, 100, MIN, MAX}) {
            talk.state(what, -1);
        }
        Talk.sentence("0 files, 1 targets that are there, 2 rules,");
        talk.says("put a <x>", "ok").says("put a <y>", "ok").says("put b <>", "ok").state(0, 2);
        talk.says("gone b", "ok").says("gone b", "no file").state(0, 1);
        talk.says("target t=join(a)", "ok").says("target u=upper(:t)", "ok").says("target v=join(a)", "ok");
        talk.says("drop v", "ok").says("target t=join(a)", "ok").says("target w=nope(a)", "no rule").state(1, 2);
        talk.says("wish 0 1 3", "rule 0").says("wish 9 1 3", "no part").says("need 0 1 1 1 1", "rule 1").state(2, 2);
        talk.says("unwish", "ok").state(2, 1);

        Talk.sentence("3 whether a session goes on (1, 0), 4 steps of it (or of the latest), 5 targets that it needs, 6 of these done, 7 outcomes kept");
        session(talk, 0, 0, 0, 0, 0, -1, -1);
        talk.says("build u", "ok");
        session(talk, 1, 0, 2, 0, 0, -1, -1);
        talk.says("go 0", "on");
        session(talk, 1, 0, 2, 0, 0, -1, -1);
        Talk.sentence("11 the target of worker 0, 12 of worker 1 (its number; -1 without one)");
        talk.says("go 1", "on");
        session(talk, 1, 1, 2, 0, 0, 0, -1);
        // t's three steps are done by worker 0: worker 1 sees that in the same step.
        talk.says("go 2", "on");
        session(talk, 1, 3, 2, 1, 1, -1, 1);
        talk.says("go 1", "on");
        session(talk, 1, 4, 2, 1, 1, -1, 1);
        talk.says("go 99", "built");
        session(talk, 0, 5, 2, 2, 2, -1, -1);
        // The latest session's numbers stay, also when a build is refused; a new one begins at 0.
        talk.says("build zz", "no target").says("go 1", "no session");
        session(talk, 0, 5, 2, 2, 2, -1, -1);
        talk.says("build t", "ok");
        session(talk, 1, 0, 1, 0, 2, -1, -1);
        talk.says("stop", "ok");
        session(talk, 0, 0, 1, 0, 2, -1, -1);
        // A worker that has something has nothing when the session is stopped.
        talk.says("put a <z>", "ok").says("build t", "ok").says("go 1", "on").state(11, 0).says("stop", "ok");
        session(talk, 0, 1, 1, 0, 2, -1, -1);
        // Done is also what failed.
        talk.says("gone a", "ok").says("build u", "ok").says("go 1", "failed t: no file a");
        session(talk, 0, 1, 2, 1, 2, -1, -1);

        Talk.sentence("8 bytes of the book's records (-1: it is shut), 9 bytes on the tape, 10 bytes of the latest answer");
        talk.says("house", "ok").state(8, 7).state(10, 2).says("flag f 1", "ok").state(8, 17).says("files", "").state(8, 17);
        talk.state(10, 0).says("gone a", "no file").state(8, 17).state(10, 7);
        talk.feed("x".repeat(21));
        talk.state(9, 40);
        talk.house.ask(0);
        talk.state(9, 0).state(10, 5);
        talk.says("cut 10", "ok").state(8, -1).says("mend", "2").state(8, 17);
        talk.house.poke(9, 1);
        talk.state(8, -1).says("mend", "1").state(8, 7).says("mend", "1").state(8, 7);
    }

    /** States 3 to 7, 11 and 12. */
    private static void session(Talk talk, int... due) {
        for (int k = 0; k < due.length; k++) {
            talk.state(k < 5 ? k + 3 : k + 6, due[k]);
        }
    }

    private static void statesWhenShut() {
        Talk.sentence("(0 to 7, 11, 12 as they were when the book is shut.)");
        for (boolean cut : new boolean[] {true, false}) {
            Talk talk = Talk.of("""
                put a <x> => ok
                put b <123456789012> => ok
                target t=join(a) => ok
                target u=upper(b) => ok
                target v=join(:t,:u) => ok
                wish 0 1 1 => rule 0
                build v => ok
                go 3 => on""");
            int[] due = {2, 3, 1, 1, 3, 3, 1, 1, -1, 0, 2, -1, 1};
            if (cut) {
                talk.says("cut 0", "ok");
            } else {
                Talk.due("poke", talk.house.poke(0, 1), true);
            }
            for (int what = 0; what < due.length; what++) {
                talk.state(what, due[what]);
            }
            // What is asked for then does not change them, but the answer and the tape.
            talk.eachSays("shut", "go 9", "stop", "drop t", "unwish", "gone a", "build t", "put c <>", "wish 0 1 1");
            due[10] = 4;
            for (int what = 0; what < due.length; what++) {
                talk.state(what, due[what]);
            }
        }
    }

    private static void bytesOfBook() {
        Talk.sentence("Byte i of the book, 0 to 255; -1 when there is none such.");
        Talk talk = new Talk();
        for (int i : new int[] {-1, 2048, 2049, 4096, MIN, MAX}) {
            Talk.due("byteAt(" + i + ")", talk.house.byteAt(i), -1);
        }
        Talk.due("byteAt(0)", talk.house.byteAt(0), 0);
        Talk.due("byteAt(2047)", talk.house.byteAt(2047), 0);
        for (int i : new int[] {0, 2047}) {
            talk.house.poke(i, 128);
            Talk.due("byteAt(" + i + ")", talk.house.byteAt(i), 128);
            talk.house.poke(i, 127);
            Talk.due("byteAt(" + i + ")", talk.house.byteAt(i), 255);
        }
    }

    private static void pokes() {
        Talk.sentence("false, doing nothing, when there is none such, or the mask is not 1 to 255.");
        Talk talk = new Talk();
        talk.says("flag f 1", "ok");
        int[][] refused = {{-1, 1}, {2048, 1}, {2048, 255}, {MIN, 1}, {MAX, 1}, {0, 0}, {0, 256}, {0, 257}, {0, -1},
            {0, 511}, {0, MIN}, {0, MAX}, {2047, 0}, {2047, 256}, {-1, 0}, {2048, 256}};
        for (int[] p : refused) {
            Talk.due("poke(" + p[0] + ", " + p[1] + ")", talk.house.poke(p[0], p[1]), false);
        }
        talk.state(8, 10);
        Talk.due("byteAt(0)", talk.house.byteAt(0), 8);
        Talk.due("byteAt(2047)", talk.house.byteAt(2047), 0);
        talk.says("files", "");

        Talk.sentence("A byte of the book is xored by a mask, and the book is shut then: true");
        for (int[] p : new int[][] {{0, 1}, {0, 255}, {2047, 1}, {2047, 255}, {9, 128}, {10, 1}}) {
            Talk one = new Talk();
            one.says("flag f 1", "ok");
            int before = one.house.byteAt(p[0]);
            Talk.due("poke(" + p[0] + ", " + p[1] + ")", one.house.poke(p[0], p[1]), true);
            Talk.due("byteAt(" + p[0] + ")", one.house.byteAt(p[0]), before ^ p[1]);
            Talk.due("its neighbour", one.house.byteAt(p[0] ^ 1), p[0] == 0 ? (int) 'f' : p[0] == 9 ? (int) '1' : 0);
            one.state(8, -1).says("files", "shut");
            // Also one that is shut; xored again, the byte is what it was, and the book is shut nevertheless.
            Talk.due("poke again", one.house.poke(p[0], p[1]), true);
            Talk.due("byteAt(" + p[0] + ")", one.house.byteAt(p[0]), before);
            one.state(8, -1).says("files", "shut").says("mend", "1").state(8, 10);
        }
    }
}
