/** Promise 3: sessions, their steps, what is kept, and why an action is worked. */
public final class SessionsTest {
    public static void main(String[] args) {
        steps();
        failures();
        snapshot();
        keptOnes();
        latestKeys();
        reasons();
        anew();
        Talk.end();
    }

    private static void steps() {
        // 2 and a tenth of the bytes, rounded up: 0, 1, 10, 11 bytes.
        String[][] work = {{"", "2"}, {"1", "3"}, {"1234567890", "3"}, {"12345678901", "4"}, {"x".repeat(160), "18"}};
        for (String[] w : work) {
            Talk talk = new Talk();
            talk.says("put a <" + w[0] + ">", "ok").says("target t=digest(a)", "ok").says("build t", "ok");
            int steps = Integer.parseInt(w[1]);
            talk.says("go " + (steps - 1), "on").says("go 0", "on").says("go 1", "built").state(4, steps);
            // Kept: one step.
            talk.says("build t", "ok").says("go 99", "built").state(4, 1).says("work", "1 1 0");
            // Failed ahead: one step.
            talk.says("gone a", "ok").says("build t", "ok").says("go 1", "failed t: no file a").state(4, 1);
            talk.says("work", "1 1 1");
        }
        // For compile it is the faces: 4 bytes of lib's, not the 54 of its output.
        Talk talk = Talk.of("""
            put a <pub x=1|aaaaaaa=9999|aaaaaab=9999|aaaaaac=9999|aaaaaad=9|> => ok
            put b <y=x> => ok
            target lib=compile(a) => ok
            target app=compile(:lib,b) => ok
            target all=join(:lib,b) => ok
            build app => ok
            go 99 => built
            output lib => x=1|aaaaaaa=9999|aaaaaab=9999|aaaaaac=9999|aaaaaad=9|
            build app => ok
            go 99 => built""".stripIndent());
        // Both are kept: worker 0 is done with lib when worker 1 looks.
        talk.state(4, 1);
        talk.go("""
            put b <y=x+x> => ok
            build app => ok
            go 2 => on
            go 1 => built
            build all => ok
            go 7 => on
            go 99 => built""".stripIndent());
        // Lib is kept: done in step 1, where worker 1 takes all at once. 53 and 5 bytes: 8 steps.
        talk.state(4, 8);
        two();
        three();
    }

    /** Two workers: each takes the lowest that can be taken, and worker 1 sees what worker 0 has just done. */
    private static void two() {
        Talk talk = Talk.of("""
            put a <1> => ok
            put b <12345678901234567890> => ok
            target top=join(:x,:y,:z) => ok
            target z=join(a) => ok
            target y=upper(b) => ok
            target x=sort(a) => ok
            build top => ok
            go 1 => on""".stripIndent());
        talk.state(11, 1).state(12, 2).state(5, 4).says("runs", "z;y;");
        // z's work is 3 steps, y's 4.
        talk.says("go 2", "on").state(11, -1).state(12, 2).state(6, 1);
        talk.says("go 1", "on").state(11, 3).state(12, -1).state(6, 2).says("runs", "z;y;x;").says("work", "2 0 0");
        talk.says("go 2", "on").state(11, -1).state(12, 0).state(6, 3).says("runs", "z;y;x;top;");
        // Top has 2 + 20 + 1 bytes: 5 steps, of which one is done.
        talk.says("go 3", "on").says("go 1", "built").state(4, 10).says("output top", "1|123456789012345678901");
    }

    /** A worker keeps what it has, while others may be taken; three that wait for nothing. */
    private static void three() {
        Talk talk = Talk.of("""
            put a <123456789012345678901> => ok
            put b <> => ok
            target x=join(a) => ok
            target y=join(b) => ok
            target z=count(b) => ok
            target v=digest(b) => ok
            target w=join(:x,:y,:z,:v) => ok
            build w => ok
            go 1 => on""".stripIndent());
        // x's work is 5 steps, the others' 2 each: worker 1 does them, y, z, and the half of v.
        talk.state(11, 0).state(12, 1).says("go 1", "on").state(11, 0).state(12, -1);
        talk.says("go 1", "on").state(11, 0).state(12, 2).says("go 1", "on").state(11, 0).state(12, -1);
        talk.says("go 1", "on").state(11, -1).state(12, 3).state(6, 3).says("runs", "x;y;z;v;");
        // Worker 0 has nothing to take: v is not done when it looks. Then worker 1 is done with it.
        talk.says("go 1", "on").state(11, -1).state(12, -1).state(6, 4);
        // 21, 0, 2 and 17 bytes: 6 steps.
        talk.says("go 1", "on").state(11, 4).state(12, -1).says("go 4", "on").says("go 1", "built").state(4, 12);
    }

    private static void failures() {
        Talk talk = Talk.of("""
            target t=join(a,:u,b)?f=1 => ok
            build t => ok
            go 9 => failed t: absent
            flag f 1 => ok
            build t => ok
            go 9 => failed t: no file a
            put a <x> => ok
            build t => ok
            go 9 => failed t: no target u
            target u=join(c) => ok
            build t => ok
            go 9 => failed u: no file c
            put c <y> => ok
            build t => ok
            go 9 => failed t: no file b
            flag f 0 => ok
            build t => ok
            go 9 => failed t: absent
            work => 1 1 6
            why t => never
            why u => new
            output t => none
            output u => y
            drop u => ok
            output u => y
            why u => new
            build t => ok
            go 9 => failed t: absent
            flag f 1 => ok
            build t => ok
            go 9 => failed t: no target u""".stripIndent());
        // What needs a target that failed is never taken; the lowest one that failed is told.
        talk.go("""
            house => ok
            target all=join(:y,:x) => ok
            target x=join(no1) => ok
            target y=join(no2) => ok
            target z=join(:all) => ok
            build z => ok
            go 1 => failed x: no file no1
            runs =>
            work => 0 0 2""".stripIndent());
        talk.state(5, 4).state(6, 2).state(4, 1);
        talk.go("""
            build zz => no target
            build z => ok
            build zz => no target
            build z => busy
            stop => ok
            stop => no session
            go 0 => no session
            build z => ok
            go 9999 => failed x: no file no1
            stop => no session""".stripIndent());
        talk.go("""
            target y=join(no2)?f=1 => ok
            target zz=join(:y,:x,:z) => ok
            drop all => ok
            build zz => ok
            go 9 => failed x: no file no1
            target x=join(long/path/no) => ok
            build zz => ok
            go 9 => failed x: no file long/path/no
            target all=join(no0) => ok
            build zz => ok
            go 9 => failed all: no file no0""".stripIndent());
        // A rule's failure is an outcome: worked once, then kept; what was put before stays, with its parts.
        Talk.of("""
            put a <x=1> => ok
            target t=compile(a) => ok
            build t => ok
            go 9 => built
            put a <x=> => ok
            build t => ok
            go 9 => failed t: bad 0 0
            why t => input 0
            output t => x=1|
            build t => ok
            go 9 => failed t: bad 0 0
            work => 2 1 0
            kept => 2
            runs =>
            why t => input 0
            put a <x=2> => ok
            build t => ok
            go 9 => built
            why t => input 0
            face t =>
            output t => x=2|""".stripIndent());
    }

    /** A session goes on with files, flags and targets as they were when it began. */
    private static void snapshot() {
        Talk.of("""
            put a <old> => ok
            target t=join(a)?f=0 => ok
            target top=upper(:t) => ok
            build top => ok
            put a <new> => ok
            flag f 1 => ok
            go 1 => on
            target t=sort(a) => ok
            gone a => ok
            target top=digest(:t,a) => ok
            drop top => ok
            target new=join(a) => ok
            go 99 => built
            output top => OLD
            output t => old
            why t => new
            runs => t;top;
            build new => ok
            go 1 => failed new: no file a
            runs =>
            anew top => no target
            anew t => failed t: no file a
            put a <new> => ok
            build t => ok
            go 2 => on
            output t => old
            stop => ok
            output t => old
            runs => t;
            why t => rule
            work => 2 0 1
            kept => 2
            build t => ok
            go 9 => built
            output t => new|""".stripIndent());
    }

    private static void keptOnes() {
        // The same rule and inputs make the same key, whatever the target is; a word or a path makes another one.
        Talk talk = Talk.of("""
            put a <o|x> => ok
            put b <o|x> => ok
            target t=grep.o(a) => ok
            target u=grep.o(a) => ok
            target v=grep.x(a) => ok
            target w=grep.o(b) => ok
            build t => ok
            go 9 => built
            build u => ok
            go 1 => built
            work => 1 1 0
            why u => never
            output u => o|
            build v => ok
            go 9 => built
            work => 2 1 0
            build w => ok
            go 9 => built
            work => 3 1 0
            kept => 3
            put a <x|o> => ok
            build t => ok
            go 9 => built
            work => 4 1 0
            put a <o|x> => ok
            build t => ok
            go 1 => built
            work => 4 2 0
            output t => o|
            why t => input 0
            build t => ok
            go 1 => built
            why t => input 0""".stripIndent());
        talk.state(7, 4);
        // Only those are worked again that saw a change: app sees lib's face, all sees its output.
        Talk.of("""
            put s <pub x=1|y=2> => ok
            put a <q=x> => ok
            target lib=compile(s) => ok
            target app=compile(:lib,a) => ok
            target all=join(:lib) => ok
            target top=join(:app,:all) => ok
            build top => ok
            go 99 => built
            runs => lib;app;all;top;
            put s <pub x=1|y=3> => ok
            build top => ok
            go 99 => built
            runs => lib;all;top;
            why lib => input 0
            why app => new
            why all => input 0
            why top => input 1
            output top => q=1|x=1|y=3|
            put s <pub x=1|y=2+1> => ok
            build top => ok
            go 99 => built
            runs => lib;
            work => 8 4 0
            put s <y=3> => ok
            build top => ok
            go 99 => failed app: bad 1 0
            runs => lib;app;all;
            output lib => y=3|
            output top => q=1|x=1|y=3|
            face app =>
            why app => input 0""".stripIndent());
        // The path, where it ends, and whether it is a file or a target, are of a part: none of these is one another.
        String[] alike = {"abcdefgh1", "abcdefgh2", "a", "ab", ":a"};
        Talk parts = Talk.of("""
            put abcdefgh1 <bc> => ok
            put abcdefgh2 <bc> => ok
            put a <bc> => ok
            put ab <c> => ok
            target a=join(a) => ok
            build a => ok
            go 9 => built""".stripIndent());
        for (int i = 0; i < alike.length; i++) {
            parts.says("target t=upper(" + alike[i] + ")", "ok").says("build t", "ok").says("go 9", "built");
            parts.says("why t", i == 0 ? "new" : "input 0").says("work", i + 2 + (i == 4 ? " 1 0" : " 0 0"));
        }
        // Two workers at once on one key: both work, one is kept.
        Talk.of("""
            put a <x> => ok
            target t=join(a) => ok
            target u=join(a) => ok
            target v=join(:t,:u) => ok
            build v => ok
            go 99 => built
            work => 3 0 0
            kept => 2""".stripIndent());
    }

    private static void latestKeys() {
        Talk talk = Talk.of("""
            target t=join(a) => ok
            target u=join(b) => ok
            put b <b> => ok
            build u => ok
            go 9 => built""".stripIndent());
        for (int i = 0; i < 23; i++) {
            build(talk, "" + i, i + 2, 0);
        }
        talk.says("kept", "24");
        // U's is used: so it comes to the end, and 0 is the oldest.
        talk.says("build u", "ok").says("go 1", "built").says("work", "24 1 0");
        build(talk, "23", 25, 1);
        talk.says("kept", "24").says("build u", "ok").says("go 1", "built").says("work", "25 2 0");
        build(talk, "1", 25, 3);
        build(talk, "0", 26, 3);
        // Now 2 is gone, and 3 is the oldest.
        build(talk, "3", 26, 4);
        build(talk, "2", 27, 4);
        talk.says("why t", "input 0").says("kept", "24");
        talk.state(7, 24);
    }

    private static void build(Talk talk, String text, int worked, int kept) {
        talk.says("put a <" + text + ">", "ok").says("build t", "ok").says("go 9", "built");
        talk.says("work", worked + " " + kept + " 0");
    }

    private static void reasons() {
        Talk talk = Talk.of("""
            put a <x> => ok
            put b <y> => ok
            put c <x> => ok
            target t=join(a,b) => ok
            why t => never
            why u => never
            build t => ok
            why t => never
            go 1 => on
            why t => new
            stop => ok
            why t => new
            build t => ok
            go 9 => built
            why t => new
            target t=join(a,b,c) => ok
            build t => ok
            go 9 => built
            why t => inputs
            target t=sort(a) => ok
            build t => ok
            go 9 => built
            why t => rule
            target t=sort(c) => ok
            build t => ok
            go 9 => built
            why t => input 0
            target t=grep.x(c) => ok
            build t => ok
            go 9 => built
            why t => rule
            target t=grep.y(c) => ok
            build t => ok
            go 9 => built
            why t => rule
            target t=join(a,b,c,a,b,c) => ok
            build t => ok
            go 9 => built
            target t=join(a,b,c,a,b,b) => ok
            build t => ok
            go 9 => built
            why t => input 5
            target t=join(a,b,b,a,b,c) => ok
            build t => ok
            go 9 => built
            why t => input 2
            target c=join(b) => ok
            target t=join(a,b,b,a,:c,c) => ok
            build t => ok
            go 9 => built
            why t => input 4
            drop t => ok
            why t => input 4
            target t=upper(a) => ok
            why t => input 4
            build t => ok
            go 9 => built
            why t => rule""".stripIndent());
        // Lost: t's outcome is no more among the latest 24, and its parts are those of what is put.
        talk = Talk.of("""
            put a <x> => ok
            target t=join(a) => ok
            build t => ok
            go 9 => built
            target u=join(b) => ok""".stripIndent());
        for (int i = 0; i < 24; i++) {
            talk.says("put b <" + i + ">", "ok").says("build u", "ok").says("go 9", "built");
        }
        talk.says("build t", "ok").says("go 9", "built").says("why t", "lost").says("work", "26 0 0");
        talk.says("build t", "ok").says("go 9", "built").says("why t", "lost").says("work", "26 1 0");
    }

    private static void anew() {
        Talk talk = Talk.of("""
            put s <pub x=1|y=2> => ok
            put a <q=x> => ok
            target top=join(:app) => ok
            target lib=compile(s) => ok
            target app=compile(:lib,a) => ok
            anew top => unlike top
            build top => ok
            go 99 => built
            anew top => same
            put s <pub x=1|y=3> => ok
            anew top => unlike lib
            anew app => unlike lib
            put s <x=1|y=2> => ok
            anew lib => unlike lib
            anew top => failed app: bad 1 0
            put s <y=2|pub x=1> => ok
            anew top => unlike lib
            put s <pub x=1|y=2|> => ok
            anew top => same
            put a <pub q=x> => ok
            anew top => unlike app
            output app => q=1|
            put a <q=x+1> => ok
            anew top => unlike top
            flag f 1 => ok
            target lib=compile(s)?f=0 => ok
            anew top => failed lib: absent
            gone s => ok
            target lib=compile(s) => ok
            anew top => failed lib: no file s
            drop lib => ok
            anew top => failed app: no target lib
            anew lib => no target
            anew nope => no target
            work => 3 0 0
            kept => 3
            runs => lib;app;top;
            why top => new
            output top => q=1|""".stripIndent());
        // Ahead of unlike, whatever the numbers; and while a session goes on, which it leaves as it is.
        talk.go("""
            house => ok
            put a <1> => ok
            target one=join(a) => ok
            target bad=join(b) => ok
            target all=join(:one,:bad) => ok
            target x=count(:one) => ok
            anew all => failed bad: no file b
            build x => ok
            go 4 => on
            anew x => unlike x
            put a <2> => ok
            anew x => unlike one""".stripIndent());
        talk.state(4, 4).state(3, 1).state(11, -1).state(12, 3).state(5, 2).state(6, 1);
        talk.says("go 9", "built").says("output x", "1|").says("runs", "one;x;").says("work", "2 0 0");
        // All is worked anew, also what is alike within: no steps of a session are told.
        talk.says("put a <1>", "ok").says("anew x", "same").state(4, 5);
    }
}
