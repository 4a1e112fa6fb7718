/** The edges of parts, keys and what is kept, of sessions, steps and reasons, sentence by sentence. */
public final class EdgesOfSessionsTest {
    public static void main(String[] args) {
        parts();
        facesOfParts();
        latestKeys();
        keptFailures();
        oneKeyTwice();
        snapshot();
        needed();
        workSteps();
        stepsAhead();
        workers();
        dones();
        ends();
        reasons();
        lost();
        goes();
        builds();
        Talk.end();
    }

    private static void builds(Talk talk, String target, String work) {
        talk.says("build " + target, "ok").says("go 9999", "built").says("work", work);
    }

    private static void parts() {
        Talk.sentence("AN ACTION's PARTS: the digest of the rule's name, a . and the word (none: nothing behind the .); of each input: of a file that of f, its path, 10 and its bytes; of a target that of t, its name, 10 and its output (of compile: its face).");
        // What may not be mixed up: each of these is another action, worked for itself.
        String[] definitions = {"grep.o(:a)", "grep.o(a)", "grep.oo(a)", "grep.o(b)", "grep.o(ab)", "grep.o(a,b)", "grep.o(b,a)",
            "grep.o(a,a)", "join(a)", "sort(a)", "uniq(a)", "upper(a)", "count(a)", "digest(a)", "join(e)", "join(e,e)",
            "join(abcdefghi)", "join(abcdefghj)", "join(x)", "join(xy)"};
        Talk talk = Talk.of("""
            put a <oo> => ok
            put b <oo> => ok
            put ab <oo> => ok
            put e <> => ok
            put abcdefghi <> => ok
            put abcdefghj <> => ok
            put x <yz> => ok
            put xy <z> => ok
            target a=join(b) => ok
            build a => ok
            go 9 => built
            work => 1 0 0""");
        for (int i = 0; i < definitions.length; i++) {
            talk.says("target t=" + definitions[i], "ok");
            // Only a, which the first one needs, is out of the kept ones.
            builds(talk, "t", (i + 2) + " 1 0");
            talk.says("kept", "" + (i + 2));
        }
        // And what is the same action, for another target and under a condition: none of these is worked.
        for (int i = 1; i < definitions.length; i += 3) {
            talk.says("target u=" + definitions[i] + "?no=0", "ok");
            builds(talk, "u", definitions.length + 1 + " " + (i / 3 + 2) + " 0");
        }
        talk.says("why u", "never");
    }

    private static void facesOfParts() {
        Talk.sentence("what users see told apart so that only those are worked again that saw a change");
        Talk talk = Talk.of("""
            put s <pub x=1|y=2> => ok
            put a <q=x> => ok
            target lib=compile(s) => ok
            target app=compile(:lib,a) => ok
            target copy=join(:lib) => ok
            build app => ok
            go 99 => built
            build copy => ok
            go 99 => built
            work => 3 1 0""");
        // The output is another one, the face is not: who compiles saw no change, who joins did.
        talk.says("put s <pub x=1|y=3>", "ok");
        builds(talk, "app", "4 2 0");
        builds(talk, "copy", "5 3 0");
        talk.says("output copy", "x=1|y=3|");
        // The file is another one, the output is not: none saw a change.
        talk.says("put s <pub x=1||y=2+1>", "ok");
        builds(talk, "app", "6 4 0");
        builds(talk, "copy", "6 6 0");
        talk.says("put s <pub x=2|y=3>", "ok");
        builds(talk, "app", "8 6 0");
        talk.says("output app", "q=2|").says("why app", "input 0");
    }

    private static void latestKeys() {
        Talk.sentence("KEPT are the outcomes (output and face, or why it failed) of the latest 24 keys");
        Talk talk = Talk.of("""
            target t=join(a) => ok
            kept => 0""");
        for (int i = 0; i < 24; i++) {
            talk.says("put a <" + i + ">", "ok");
            builds(talk, "t", (i + 1) + " 0 0");
            talk.says("kept", "" + (i + 1)).state(7, i + 1);
        }
        // All 24 are kept: the first one, too, which is the latest then.
        talk.says("put a <0>", "ok");
        builds(talk, "t", "24 1 0");
        talk.says("output t", "0").says("kept", "24");
        // A 25th: 1 is gone, 0 and 2 are not.
        talk.says("put a <24>", "ok");
        builds(talk, "t", "25 1 0");
        talk.says("kept", "24").says("put a <0>", "ok");
        builds(talk, "t", "25 2 0");
        talk.says("put a <2>", "ok");
        builds(talk, "t", "25 3 0");
        talk.says("put a <1>", "ok");
        builds(talk, "t", "26 3 0");
        // 1 came in place of 3.
        talk.says("put a <4>", "ok");
        builds(talk, "t", "26 4 0");
        talk.says("put a <3>", "ok");
        builds(talk, "t", "27 4 0");
        talk.says("kept", "24").state(7, 24);

        Talk.sentence("one that is used or made comes to the end (in place of one of the same key)");
        // Used again and again, one stays: 30 others come and go.
        talk = Talk.of("""
            put a <x> => ok
            target u=upper(a) => ok
            target t=join(b) => ok
            build u => ok
            go 9 => built""");
        for (int i = 0; i < 25; i++) {
            talk.says("put b <" + i + ">", "ok");
            builds(talk, "t", (i + 2) + " " + i + " 0");
            builds(talk, "u", (i + 2) + " " + (i + 1) + " 0");
            talk.says("kept", "" + Math.min(i + 2, 24));
        }
    }

    private static void keptFailures() {
        Talk.sentence("(output and face, or why it failed)");
        Talk talk = Talk.of("""
            put a <x=> => ok
            put b <1234567890|pub> => ok
            target t=compile(a) => ok
            build t => ok
            go 3 => failed t: bad 0 0
            kept => 1
            work => 1 0 0
            build t => ok
            go 1 => failed t: bad 0 0
            work => 1 1 0
            kept => 1
            output t => none
            runs =>
            why t => new
            target u=compile(a) => ok
            build u => ok
            go 1 => failed u: bad 0 0
            why u => never
            put a <pub x=1|y=2> => ok
            build t => ok
            go 99 => built
            build u => ok
            go 1 => built
            face u => x=1|
            output u => x=1|y=2|""");
        // What fails ahead is not kept.
        talk.says("kept", "2").says("gone a", "ok").says("build t", "ok").says("go 1", "failed t: no file a").says("kept", "2");
    }

    private static void oneKeyTwice() {
        Talk.sentence("(in place of one of the same key)");
        // Both workers make the same at once: neither is kept when the other is taken.
        Talk talk = Talk.of("""
            put a <12345> => ok
            target t=join(a) => ok
            target u=join(a) => ok
            target v=count(:t,:u) => ok
            build v => ok
            go 3 => on
            work => 2 0 0
            kept => 1
            go 99 => built
            kept => 2
            work => 3 0 0
            runs => t;u;v;""");
        talk.says("output v", "1|");
    }

    private static void snapshot() {
        Talk.sentence("A SESSION builds a target on files, flags, targets as they are when it begins.");
        Talk talk = Talk.of("""
            put a <1> => ok
            put b <2> => ok
            flag f 1 => ok
            target t=join(a)?f=1 => ok
            target u=join(:t,b)?f=1 => ok
            build u => ok
            gone a => ok
            put b <3> => ok
            flag f 2 => ok
            drop t => ok
            target u=nope(a) => no rule
            target u=join(c) => ok
            target w=join(b) => ok
            go 99 => built
            output u => 12
            output t => 1
            build t => no target
            build u => ok
            go 9 => failed u: no file c
            output u => 12
            stop => no session""");
        talk.state(0, 1).state(1, 2);
        // What was dropped ahead of the session is not there in it, though it comes again.
        Talk.of("""
            put a <1> => ok
            target t=join(a) => ok
            target u=join(:t) => ok
            drop t => ok
            build u => ok
            target t=join(a) => ok
            go 1 => failed u: no target t
            build u => ok
            drop u => ok
            go 9 => built
            output u => 1""");
    }

    private static void needed() {
        Talk.sentence("It NEEDS that one, and what its inputs need.");
        Talk talk = Talk.of("""
            put a <x> => ok
            target t=join(:u,:gone,:no) => ok
            target u=join(:v,a) => ok
            target v=join(a) => ok
            target w=join(:t) => ok
            target gone=join(:w2) => ok
            target w2=join(a) => ok
            drop gone => ok
            build t => ok""");
        talk.state(5, 3).says("go 99", "failed t: no target gone").state(5, 3).state(6, 3).says("runs", "v;u;");
        talk.says("build v", "ok").state(5, 1).says("stop", "ok").says("build w", "ok").state(5, 4);
    }

    private static void workSteps() {
        Talk.sentence("else 2 and a tenth of the bytes of its inputs (faces for compile), rounded up");
        int[][] steps = {{0, 2}, {1, 3}, {9, 3}, {10, 3}, {11, 4}, {19, 4}, {20, 4}, {21, 5}, {99, 12}, {100, 12}, {101, 13},
            {159, 18}, {160, 18}};
        for (int[] s : steps) {
            Talk talk = new Talk();
            talk.says("put a <" + "x".repeat(s[0]) + ">", "ok").says("target t=digest(a)", "ok").says("build t", "ok");
            talk.says("go " + (s[1] - 1), "on").says("output t", "none").state(4, s[1] - 1).says("go 1", "built").state(4, s[1]);
        }
        // Of all inputs together: 5 and 5 bytes are 3 steps, 5 and 6 are 4; one that stands twice counts twice.
        Talk talk = Talk.of("""
            put a <12345> => ok
            put b <123456> => ok
            target t=join(a,a) => ok
            target u=join(a,b) => ok
            target v=join(b,b,b,b,b,b) => ok
            build t => ok
            go 99 => built""");
        talk.state(4, 3).says("build u", "ok").says("go 99", "built").state(4, 4).says("build v", "ok").says("go 99", "built");
        talk.state(4, 6);
        // The most that there is: six outputs of 600 bytes, 362 steps.
        talk = new Talk();
        talk.says("put a <" + "x".repeat(150) + ">", "ok").says("target t=join(a,a,a,a)", "ok");
        talk.says("target u=digest(:t,:t,:t,:t,:t,:t)", "ok").says("build t", "ok").says("go 61", "on").says("go 1", "built");
        // t is out of the kept ones: worker 1 takes u in the same step.
        talk.says("build u", "ok").says("go 361", "on").says("go 1", "built").state(4, 362);
        // Faces for compile, of a target that is not of compile its output, and of files their bytes.
        talk = Talk.of("""
            put s <pub x=1|y=1234|z=1234|w=1234> => ok
            put f <x=1|x=2|x=3|> => ok
            put a <q=x> => ok
            target lib=compile(s) => ok
            target list=join(f) => ok
            target t=compile(:lib,a) => ok
            target u=compile(:list,a) => ok
            target v=join(:lib,a) => ok
            build lib => ok
            go 99 => built
            build list => ok
            go 99 => built
            face lib => x=1|
            output lib => x=1|y=1234|z=1234|w=1234|
            build t => ok
            go 99 => built""");
        // 4 and 3 bytes; 12 and 3; 25 and 3.
        talk.state(4, 3).says("build u", "ok").says("go 99", "built").state(4, 4).says("build v", "ok").says("go 99", "built");
        talk.state(4, 5);
    }

    private static void stepsAhead() {
        Talk.sentence("Its work: 1 step when it fails ahead: its condition is not met: \"absent\"; else the first input that is not there: \"no file P\", \"no target T\"");
        Talk talk = Talk.of("""
            put a <x> => ok
            target t=join(b,:u,a)?f=1 => ok
            build t => ok
            go 0 => on
            go 1 => failed t: absent
            flag f 1 => ok
            build t => ok
            go 1 => failed t: no file b
            target t=join(a,:u,b,:v)?f=1 => ok
            build t => ok
            go 1 => failed t: no target u
            target t=join(abcdefghijkl,:abcdefgh) => ok
            build t => ok
            go 1 => failed t: no file abcdefghijkl
            target t=join(:abcdefgh,abcdefghijkl) => ok
            build t => ok
            go 1 => failed t: no target abcdefgh
            work => 0 0 5
            why t => never
            runs =>""");
        talk.state(4, 1).state(7, 0);
        // A file of the name of a target is none, and the other way round.
        Talk.of("""
            put u <x> => ok
            target a=join(u) => ok
            target t=join(:u) => ok
            target v=join(a) => ok
            build t => ok
            go 1 => failed t: no target u
            build v => ok
            go 1 => failed v: no file a""");
        // Also with a condition that is not met, it waits for its inputs' targets.
        talk = Talk.of("""
            put a <x> => ok
            target t=join(:u)?f=1 => ok
            target u=join(a) => ok
            build t => ok
            go 2 => on
            runs => u;
            go 9 => failed t: absent
            work => 1 0 1""");
        talk.state(4, 3);

        Talk.sentence("1 step when its key is kept (looked at when it is taken)");
        talk = Talk.of("""
            put a <123456789012345678901234567890> => ok
            target t=join(a) => ok
            target u=join(a) => ok
            target v=join(:t,:u) => ok
            build t => ok
            go 9 => built
            build v => ok
            go 1 => on
            work => 1 2 0""");
        talk.state(6, 2).state(4, 1);
    }

    private static void workers() {
        Talk.sentence("it takes the needed target of the lowest number that is not yet done, that no worker has and whose inputs' targets (those that are there) are all BUILT, if there is one; then one step of its work is done, if it has some.");
        Talk talk = Talk.of("""
            put a <12345678901> => ok
            put e <> => ok
            target t=join(:v,:w,:x,:y) => ok
            target no=join(e) => ok
            target v=join(a) => ok
            target w=join(e) => ok
            target x=join(:w,:not,a) => ok
            target y=join(e,e) => ok
            build t => ok
            go 1 => on""");
        // v has 4 steps, w 2; x (4 steps, when :not would be there) fails ahead, y has 2.
        talk.state(11, 2).state(12, 3).says("go 1", "on").state(11, 2).state(12, -1).state(6, 1);
        talk.says("go 1", "on").state(11, 2).state(12, -1).state(6, 2).says("go 1", "on").state(11, -1).state(12, 5).state(6, 3);
        talk.says("go 1", "failed x: no target not").state(6, 4).state(4, 5).says("runs", "v;w;y;").says("work", "3 0 1");

        Talk.sentence("(Worker 1 sees what worker 0 has just done.)");
        // Worker 0's last step on v is ahead of worker 1's look: w is taken and worked in this very step.
        talk = Talk.of("""
            put e <> => ok
            target v=join(e) => ok
            target w=join(:v) => ok
            build w => ok
            go 1 => on""");
        talk.state(11, 0).state(12, -1).says("go 1", "on").state(11, -1).state(12, 1).says("go 1", "built").state(4, 3);
        // Worker 0 does not see what worker 1 does in the same step.
        talk = Talk.of("""
            put a <1234567890> => ok
            put e <> => ok
            target u=join(a) => ok
            target v=join(e) => ok
            target w=join(:v) => ok
            target t=join(:u,:w) => ok
            build t => ok
            go 2 => on""");
        // u has 3 steps, v 2: in the third step worker 1 takes w.
        talk.state(11, 0).state(12, -1).says("go 1", "on").state(11, -1).state(12, 2).state(6, 2);
        // Worker 0 finds nothing, worker 1 is done with w; in the fifth step worker 0 takes t.
        talk.says("go 1", "on").state(11, -1).state(12, -1).state(6, 3).says("go 1", "on").state(11, 3).state(12, -1);
        talk.says("go 2", "built").state(4, 7);
    }

    private static void dones() {
        Talk.sentence("With the last step it is done: BUILT or FAILED; what is built is PUT: its output and face are those of the target from then on (by its name; of before, else), its parts its latest ones.");
        Talk.of("""
            put a <1> => ok
            target t=join(a) => ok
            build t => ok
            go 2 => on
            output t => none
            release t => none
            go 1 => built
            output t => 1
            put a <2> => ok
            build t => ok
            go 2 => on
            output t => 1
            stop => ok
            output t => 1
            build t => ok
            go 3 => built
            output t => 2
            drop t => ok
            output t => 2
            face t => 2
            target t=compile(a) => ok
            output t => 2
            build t => ok
            go 9 => failed t: bad 0 0
            output t => 2
            face t => 2
            why t => rule
            target t=join(a) => ok
            build t => ok
            go 1 => built
            why t => rule
            put a <3> => ok
            build t => ok
            go 9 => built
            why t => input 0""");
    }

    private static void ends() {
        Talk.sentence("A session ends when no worker has something and there is nothing to take.");
        // Nothing to take, for what failed; and worker 1 goes on with what it has.
        Talk talk = Talk.of("""
            put a <12345678901> => ok
            target t=join(:u,:v) => ok
            target u=join(no) => ok
            target v=join(a) => ok
            build t => ok
            go 1 => on""");
        talk.state(6, 1).state(3, 1).says("go 3", "failed u: no file no").state(6, 2).state(5, 3).state(4, 4).state(3, 0);
        talk.says("output v", "12345678901").says("go 1", "no session");
        // Both have something: worker 0 is done first, then worker 1.
        talk = Talk.of("""
            put a <1> => ok
            put b <12345678901> => ok
            target t=join(a)?f=1 => ok
            target u=join(b) => ok
            target v=join(:t,:u) => ok
            build v => ok
            go 9 => failed t: absent
            work => 1 0 1""");
        talk.state(4, 4);
    }

    private static void reasons() {
        Talk.sentence("(it does not fail ahead, and was not kept when it was taken; also when it fails then), when it is taken, against the target's latest parts");
        Talk.of("""
            put a <x> => ok
            target t=compile(a) => ok
            why t => never
            build t => ok
            why t => never
            go 1 => on
            why t => new
            go 9 => failed t: bad 0 0
            why t => new
            put a <y> => ok
            build t => ok
            go 9 => failed t: bad 0 0
            why t => new
            put a <x=1> => ok
            build t => ok
            go 9 => built
            why t => new
            put a <x> => ok
            build t => ok
            go 9 => failed t: bad 0 0
            why t => new
            put a <z> => ok
            build t => ok
            go 9 => failed t: bad 0 0
            why t => input 0
            gone a => ok
            build t => ok
            go 9 => failed t: no file a
            why t => input 0""");
        Talk.sentence("\"new\" (there were none), \"rule\", \"inputs\" (not as many), \"input I\" (the first, from 0, that is another one), \"lost\" (all are the same).");
        // Each of them ahead of those behind it.
        Talk talk = new Talk();
        talk.says("put a <x>", "ok").says("put b <y>", "ok");
        reason(talk, "grep.x(a,a,a,a,a,a)", "new");
        reason(talk, "join(a)", "rule");
        reason(talk, "grep.y(a)", "rule");
        reason(talk, "grep.x(a)", "rule");
        reason(talk, "grep.x(b,b)", "inputs");
        reason(talk, "grep.x(b)", "inputs");
        reason(talk, "grep.x(a,b,a,b,a,b)", "inputs");
        reason(talk, "grep.x(a,b,a,b,a,a)", "input 5");
        reason(talk, "grep.x(b,b,a,b,a,b)", "input 0");
        reason(talk, "grep.x(b,a,a,a,a,b)", "input 1");
        reason(talk, "grep.x(b,a,a,a,a,:u)", "input 5");
        reason(talk, "grep.x(b,a)", "inputs");
        // The bytes of an input are of it, as is its path.
        talk.says("put a <xx>", "ok");
        reason(talk, "grep.x(b,a)", "input 1");
        talk.says("put b <xx>", "ok");
        reason(talk, "grep.x(a,b)", "input 0");
    }

    /** Builds the target t of another definition, which is worked. */
    private static void reason(Talk talk, String definition, String due) {
        if (definition.contains(":u")) {
            talk.says("target u=join(a)", "ok");
        }
        talk.says("target t=" + definition, "ok").says("build t", "ok").says("go 99", "built").says("why t", due);
    }

    private static void lost() {
        Talk.sentence("\"lost\" (all are the same)");
        Talk talk = Talk.of("""
            put a <x> => ok
            target t=join(a) => ok
            target u=join(b) => ok
            build t => ok
            go 9 => built""");
        // 23 others leave t's outcome among the latest 24; one more does not.
        for (int i = 0; i < 23; i++) {
            talk.says("put b <" + i + ">", "ok").says("build u", "ok").says("go 9", "built");
        }
        talk.says("build t", "ok").says("go 1", "built").says("why t", "new");
        for (int i = 30; i < 54; i++) {
            talk.says("put b <" + i + ">", "ok").says("build u", "ok").says("go 9", "built");
        }
        talk.says("build t", "ok").says("go 1", "on").says("why t", "lost").says("go 2", "built").says("work", "49 1 0");
    }

    private static void goes() {
        Talk.sentence("go N: \"no session\"; else up to N steps are done, while it goes on: \"on\" when it goes on; else (it has ended) \"built\", or \"failed T: W\", the target of the lowest number that failed, and why.");
        Talk talk = new Talk();
        talk.says("go 0", "no session").says("go 9999", "no session").state(8, 0);
        talk.go("""
            put a <x> => ok
            target t=join(a) => ok
            build t => ok
            go 0 => on
            go 0 => on
            go 2 => on
            go 0 => on
            go 1 => built
            go 0 => no session
            build t => ok
            go 1 => built
            build t => ok
            go 9999 => built""");
        // No more steps are done than there are.
        talk.state(4, 1).says("put a <y>", "ok").says("build t", "ok").says("go 9999", "built").state(4, 3);
        talk.says("put a <z>", "ok").says("build t", "ok").says("go 3", "built").state(4, 3);
        // The lowest number, not the first that failed.
        Talk.of("""
            put a <123456789012345678901234567890> => ok
            target t=join(:u,:v) => ok
            target u=compile(a) => ok
            target v=join(no) => ok
            build t => ok
            go 1 => on
            go 4 => failed u: bad 0 0
            target u=join(a) => ok
            build t => ok
            go 99 => failed v: no file no""");
        // Number 0 fails first, then number 1.
        Talk.of("""
            put a <x> => ok
            target u=join(no) => ok
            target v=compile(a) => ok
            target t=join(:u,:v) => ok
            build t => ok
            go 1 => on
            go 9 => failed u: no file no
            work => 1 0 1""");
    }

    private static void builds() {
        Talk.sentence("build T: \"no target\"; \"busy\" when a session goes on.");
        Talk talk = Talk.of("""
            build t => no target
            put a <x> => ok
            target t=join(a) => ok
            drop t => ok
            build t => no target
            target t=join(a) => ok
            build t => ok
            build t => busy
            build u => no target
            go 1 => on
            build t => busy
            go 9 => built
            build t => ok""");
        talk.state(4, 0).says("go 9", "built");

        Talk.sentence("stop: \"no session\"; else it is no more (what was put stays).");
        talk.says("stop", "no session").says("put a <y>", "ok").says("build t", "ok").says("stop", "ok").says("stop", "no session");
        talk.says("output t", "x").says("target u=join(:t)", "ok").says("build u", "ok").says("go 4", "on").says("stop", "ok");
        talk.says("output t", "y").says("output u", "none").says("go 1", "no session").says("build u", "ok").state(4, 0);
    }
}
