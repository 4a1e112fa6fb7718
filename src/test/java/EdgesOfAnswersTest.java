import java.util.TreeSet;

/** The edges that the answers name, request by request: what is refused, what is told ahead of what, and "none". */
public final class EdgesOfAnswersTest {
    public static void main(String[] args) {
        house();
        putAndGone();
        flag();
        targetRefusals();
        circles();
        drops();
        refusedDoesNothing();
        releases();
        releasedLines();
        shownFiles();
        shownTargets();
        shownPut();
        runsAndWork();
        anew();
        needs();
        manyFiles();
        users();
        ways();
        longest();
        kept();
        Talk.end();
    }

    private static void house() {
        Talk.sentence("house: all is as at first.");
        Talk talk = Talk.of("""
            put a <1> => ok
            flag f 1 => ok
            target t=join(a)?f=1 => ok
            target u=join(a) => ok
            wish 0 1 1 => rule 0
            wish 0 2 2 => rule 1
            build t => ok
            go 9 => built
            release t => 1.0.0
            build u => ok
            go 1 => built
            put a <2> => ok
            build u => ok
            go 1 => on
            house => ok
            files =>
            targets =>
            output t => none
            face t => none
            why t => never
            edition t => none
            release t => none
            runs =>
            work => 0 0 0
            kept => 0
            rules =>
            solve => - - - - -
            go 1 => no session
            show a => no file
            anew t => no target""");
        for (int what = 0; what <= 7; what++) {
            talk.state(what, 0);
        }
        talk.state(8, 7).state(11, -1).state(12, -1);
        // Numbers, editions, kept ones and flags begin anew.
        talk.go("""
            target u=join(a)?f=0 => ok
            target t=join(a) => ok
            put a <1> => ok
            users a => u;t;
            why u => never
            build u => ok
            go 9 => built
            why u => new
            work => 1 0 0
            release u => 1.0.0
            wish 1 1 1 => rule 0""");
        talk.state(11, -1).state(4, 3);
    }

    private static void putAndGone() {
        Talk.sentence("put P T: \"no room\" with 16 other files; else the file has these bytes.");
        Talk talk = new Talk();
        for (int i = 0; i < 16; i++) {
            talk.says("put abcdefgh" + i + " <" + i + ">", "ok");
        }
        talk.says("put abcdefgh <x>", "no room").says("put a <x>", "no room").says("put abcdefgh16 <x>", "no room").state(0, 16);
        for (int i = 15; i >= 0; i--) {
            talk.says("put abcdefgh" + i + " <" + i + i + ">", "ok");
        }
        talk.says("show abcdefgh15", "1515").says("show abcdefgh1", "11").says("show abcdefgh", "no file").state(0, 16);
        Talk.sentence("gone P: \"no file\".");
        talk.says("gone abcdefgh", "no file").says("gone a", "no file").says("gone abcdefgh16", "no file").state(0, 16);
        talk.says("gone abcdefgh1", "ok").says("gone abcdefgh1", "no file").state(0, 15).says("show abcdefgh10", "1010");
        talk.says("put abcdefgh <>", "ok").says("put abcdefgh1 <>", "no room").state(0, 16).says("gone abcdefgh", "ok");
        // Each of the others keeps its own bytes, wherever one goes or comes.
        Talk.of("""
            put b <1> => ok
            put c <2> => ok
            put d <3> => ok
            gone b => ok
            put e <4> => ok
            show c => 2
            show d => 3
            show e => 4
            gone d => ok
            put a <5> => ok
            put z <6> => ok
            show a => 5
            show c => 2
            show e => 4
            show z => 6
            files => a 1;c 1;e 1;z 1;""");
    }

    private static void flag() {
        Talk.sentence("flag F N: \"no room\" with 6 other flags.");
        Talk talk = new Talk();
        talk.eachSays("ok", "flag a 0", "flag b 0", "flag c 0", "flag d 0", "flag e 0", "flag abcdefgh 0");
        talk.eachSays("no room", "flag f 0", "flag f 1", "flag abcdefg 1", "flag aa 1").state(8, 5 * 10 + 17);
        talk.eachSays("ok", "flag a 1", "flag b 1", "flag c 1", "flag d 1", "flag e 1", "flag abcdefgh 1");
        talk.says("flag f 1", "no room").says("house", "ok").says("flag f 1", "ok");
    }

    private static void targetRefusals() {
        Talk.sentence("target ..: \"no rule\"; \"no word\" (grep without one, others with one); \"no room\" with 14 other targets; \"circle\" when a target would need itself; else it is so");
        Talk talk = new Talk();
        talk.eachSays("no rule", "target t=nope(a)", "target t=nope.w(a)", "target t=joi(a)", "target t=joins(a)", "target t=join_(a)",
            "target t=gre.w(a)", "target t=nope(:t)", "target t=compil(a)", "target t=compiles(a)", "target t=a(a)", "target t=digests.w(:t)");
        talk.eachSays("no word", "target t=grep(a)", "target t=grep(:t)", "target t=join.w(a)", "target t=sort.w(a)", "target t=uniq.w(a)",
            "target t=upper.w(a)", "target t=count.w(a)", "target t=digest.w(a)", "target t=compile.w(a)", "target t=join.w(:t)");
        talk.eachSays("circle", "target t=join(:t)", "target t=grep.w(a,b,c,d,e,:t)");
        talk.state(1, 0).state(8, 0);
        String[] rules = {"join", "sort", "uniq", "upper", "count", "digest", "compile", "grep.w", "grep.join"};
        for (int i = 0; i < 14; i++) {
            talk.says("target t" + i + "=" + rules[i % rules.length] + "(a)", "ok");
        }
        talk.says("target x=nope(:x)", "no rule").says("target x=grep(:x)", "no word").says("target x=join(:x)", "no room");
        talk.says("target t0=nope(:t0)", "no rule").says("target t0=join.w(:t0)", "no word").says("target t0=join(:t0)", "circle");
        // A full house has room for what was told already, dropped or not.
        talk.says("drop t0", "ok").says("drop t13", "ok").says("target x=join(a)", "no room").says("target t13=grep.x(:t0)", "ok");
        talk.says("target t0=join(:t13)", "circle").says("target t0=join(:t1)", "ok").state(1, 14);
    }

    private static void circles() {
        Talk.sentence("\"circle\" when a target would need itself");
        Talk.of("""
            target a=join(:b) => ok
            target b=join(:b) => circle
            target b=join(:a) => circle
            target b=join(:c) => ok
            target c=join(:d,:a) => circle
            target c=join(:d) => ok
            target d=join(x,:a) => circle
            target d=join(x,:c) => circle
            target d=join(a,b,c,d) => ok
            target a=join(:b,:c,:d) => ok
            target d=join(:e) => ok
            target e=join(:a) => circle
            targets => a=join(:b,:c,:d);b=join(:c);c=join(:d);d=join(:e);
            drop c => ok
            target d=join(:a) => circle
            target d=join(:b) => ok
            target c=join(:d) => circle
            target c=join(y) => ok
            target c=join(:a) => circle
            targets => a=join(:b,:c,:d);b=join(:c);c=join(y);d=join(:b);
            target a=join(x) => ok
            target c=join(:a) => ok
            target a=join(:d) => circle""");
        // A row of all fourteen, closed at its end.
        Talk talk = new Talk();
        for (int i = 0; i < 13; i++) {
            talk.says("target t" + i + "=join(:t" + (i + 1) + ")", "ok");
        }
        talk.says("target t13=join(:t0)", "circle").says("target t13=join(:t12)", "circle").says("target t13=join(a)", "ok");
        talk.says("target t13=join(:t0)", "circle").says("target t12=join(b)", "ok").says("target t13=join(:t0)", "ok");
        talk.says("target t12=join(:t13)", "circle");
    }

    private static void drops() {
        Talk.sentence("drop T: \"no target\"; else it is not there (its number and what was put stay with its name).");
        Talk talk = Talk.of("""
            drop t => no target
            put a <x> => ok
            target u=join(a) => ok
            target t=join(a) => ok
            build t => ok
            go 9 => built
            release t => 1.0.0
            drop t => ok
            drop t => no target
            targets => u=join(a);
            output t => x
            face t => x
            edition t => 1.0.0
            why t => new
            release t => same 1.0.0
            users a => u;
            target v=join(a) => ok
            target t=join(b,a) => ok
            users a => u;t;v;
            output t => x
            put b <> => ok
            build t => ok
            go 9 => built
            why t => inputs
            release t => same 1.0.0
            drop nope => no target""");
        talk.state(1, 3);
    }

    private static void refusedDoesNothing() {
        Talk.sentence("what is refused does nothing");
        Talk talk = Talk.of("""
            put a <x> => ok
            target t=join(a) => ok
            target u=join(:t) => ok
            build t => ok
            go 9 => built
            release t => 1.0.0
            build u => ok
            go 1 => on""");
        int used = talk.house.state(8);
        talk.says("build u", "busy").says("build t", "busy").says("build no", "no target").says("release u", "none");
        talk.says("target t=join(:u)", "circle").says("target t=grep(b)", "no word").says("target t=nope(b)", "no rule");
        talk.says("gone b", "no file").says("drop b", "no target").says("wish 0 2 1", "no version").says("unwish", "no rule");
        talk.says("cut 9999", "no cut").state(8, used).state(3, 1).state(4, 1).state(6, 1).state(12, 1);
        talk.says("targets", "t=join(a);u=join(:t);").says("edition u", "none").says("edition t", "1.0.0").says("mend", "8");
        talk.state(3, 1).state(4, 1);
    }

    private static void releases() {
        Talk.sentence("release T: \"none\" when nothing was put; else the edition A.B.C of what is put: 1.0.0 when it never had one;");
        Talk talk = Talk.of("""
            release t => none
            target t=compile(a) => ok
            release t => none
            build t => ok
            release t => none
            go 9 => failed t: no file a
            release t => none
            edition t => none
            put a <> => ok
            build t => ok
            go 9 => built
            edition t => none
            release t => 1.0.0
            edition t => 1.0.0""");
        Talk.sentence("else \"same A.B.C\" (it is as it was; this is done, too)");
        int used = talk.house.state(8);
        talk.says("release t", "same 1.0.0").state(8, used + 11).says("release t", "same 1.0.0").state(8, used + 22);

        Talk.sentence("a line is gone: A one more, B and C 0; else a line is new: B one more, C 0; else the output is another one: C one more;");
        next(talk, "x=1", "1.0.1");
        next(talk, "x=2", "1.0.2");
        next(talk, "x=2|", "same 1.0.2");
        next(talk, "pub x=2", "1.1.0");
        next(talk, "pub x=2|y=1", "1.1.1");
        next(talk, "pub x=2|pub y=1", "1.2.0");
        next(talk, "pub x=2|pub y=1|z=1", "1.2.1");
        // Gone and new at once: gone is ahead.
        next(talk, "pub x=2|pub y=2|z=1", "2.0.0");
        next(talk, "pub x=2|pub y=2|z=2", "2.0.1");
        next(talk, "pub x=2", "3.0.0");
        next(talk, "", "4.0.0");
        next(talk, "x=1", "4.0.1");
        next(talk, "pub x=1|pub y=1", "4.1.0");
        // The same lines in another order: only the output is another one.
        next(talk, "pub y=1|pub x=1", "4.1.1");
        next(talk, "pub y=1|pub x=1|", "same 4.1.1");
    }

    private static void next(Talk talk, String bytes, String due) {
        talk.says("put a <" + bytes + ">", "ok").says("build t", "ok").says("go 99", "built").says("release t", due);
        talk.says("edition t", due.substring(due.indexOf(' ') + 1));
    }

    private static void releasedLines() {
        Talk.sentence("of the face that was released latest against this one (lines that are alike count once)");
        Talk talk = new Talk();
        talk.says("target t=join(a)", "ok");
        next(talk, "a", "1.0.0");
        next(talk, "a|a", "1.0.1");
        next(talk, "a|a|a|", "1.0.2");
        next(talk, "a", "1.0.3");
        next(talk, "a|b", "1.1.0");
        next(talk, "b|a|b", "1.1.1");
        next(talk, "b|b", "2.0.0");
        // An empty line is a line; a beginning of a line is another one.
        next(talk, "b||", "2.1.0");
        next(talk, "|b", "2.1.1");
        next(talk, "b", "3.0.0");
        next(talk, "bb", "4.0.0");
        next(talk, "b|bb", "4.1.0");
        next(talk, "", "5.0.0");
        next(talk, "|", "5.1.0");
        next(talk, "", "6.0.0");
        // Against the one that was released latest, though others were put between.
        talk.says("put a <x>", "ok").says("build t", "ok").says("go 9", "built").says("edition t", "6.0.0");
        next(talk, "", "same 6.0.0");
        // Each target has its own.
        talk.says("target u=join(a)", "ok").says("edition u", "none").says("release u", "none").says("build u", "ok");
        talk.says("go 9", "built").says("release u", "1.0.0").says("edition t", "6.0.0");
    }

    private static void shownFiles() {
        Talk.sentence("files: of each, in the order of their paths by bytes, path, \" \", how many bytes, \";\" (an answer of no bytes without any; likewise below).");
        Talk talk = new Talk();
        talk.says("files", "").state(10, 0);
        String[] ordered = {"a", "a.", "a/", "a0", "a9", "a_", "aa", "abcdefgh", "abcdefgh.", "abcdefgh_", "abcdefgha", "abcdefghijkl",
            "az", "b", "z", "zz"};
        int[] order = {7, 15, 0, 9, 3, 12, 1, 14, 5, 11, 2, 8, 13, 4, 10, 6};
        for (int i : order) {
            talk.says("put " + ordered[i] + " <" + "|".repeat(i) + ">", "ok");
        }
        StringBuilder due = new StringBuilder();
        for (int i = 0; i < 16; i++) {
            due.append(ordered[i]).append(' ').append(i).append(';');
        }
        talk.says("files", due.toString());
        for (int i = 15; i >= 0; i--) {
            talk.says("show " + ordered[i], "|".repeat(i)).says("gone " + ordered[i], "ok");
        }
        talk.says("files", "");
        Talk.sentence("show P: \"no file\"; else its bytes.");
        talk.says("show a", "no file").says("put a <>", "ok").says("show a", "").says("put a <a|>", "ok").says("show a", "a|");
        talk.says("put a <" + "~".repeat(160) + ">", "ok").says("show a", "~".repeat(160)).says("files", "a 160;");
    }

    private static void shownTargets() {
        Talk.sentence("targets: of each that is there, in order: its request's words behind \"target \", as told, \";\".");
        Talk.of("""
            targets =>
            target t=grep.a_1(a.b/c,:u,:t2,x)?f_1=9999 => ok
            targets => t=grep.a_1(a.b/c,:u,:t2,x)?f_1=9999;
            target a=join(x) => ok
            target u=join(x)?f=0 => ok
            target a=join(y) => ok
            targets => t=grep.a_1(a.b/c,:u,:t2,x)?f_1=9999;a=join(y);u=join(x)?f=0;
            drop t => ok
            drop u => ok
            targets => a=join(y);
            drop a => ok
            targets =>
            target u=sort(x) => ok
            target t=sort(x) => ok
            targets => t=sort(x);u=sort(x);""");
    }

    private static void shownPut() {
        Talk.sentence("output T, face T: \"none\" when nothing was put; else its bytes.");
        Talk.of("""
            output t => none
            face t => none
            put a <pub x=1|y=2> => ok
            target t=compile(a) => ok
            output t => none
            face t => none
            build t => ok
            go 9 => built
            output t => x=1|y=2|
            face t => x=1|
            put a <> => ok
            build t => ok
            go 9 => built
            output t =>
            face t =>
            output u => none""");
        Talk.sentence("why T: of the target's latest action that was worked: the reason; \"never\" without one.");
        Talk.of("""
            why t => never
            put a <> => ok
            target t=join(a) => ok
            target u=join(a) => ok
            build t => ok
            go 9 => built
            why t => new
            build u => ok
            go 9 => built
            why u => never
            build t => ok
            go 9 => built
            why t => new""");
        Talk.sentence("edition T: the latest one; \"none\".");
        Talk.of("""
            edition t => none
            put a <> => ok
            target t=join(a) => ok
            edition t => none
            build t => ok
            go 9 => built
            edition t => none
            release t => 1.0.0
            edition t => 1.0.0""");
    }

    private static void runsAndWork() {
        Talk.sentence("runs: the names of targets whose actions were worked in this session (or the latest), as they were taken, each followed by \";\".");
        Talk talk = Talk.of("""
            runs =>
            put a <x> => ok
            target t=join(:u,:v) => ok
            target u=join(a) => ok
            target v=sort(a)?f=0 => ok
            build t => ok
            runs =>
            go 1 => on
            runs => u;v;
            go 9 => built
            runs => u;v;t;
            build zz => no target
            runs => u;v;t;
            build t => ok
            runs =>
            go 9 => built
            runs =>
            put a <y> => ok
            flag f 1 => ok
            build t => ok
            go 1 => on
            runs => u;
            stop => ok
            runs => u;
            target u=compile(a) => ok
            build u => ok
            go 9 => failed u: bad 0 0
            runs => u;
            build u => ok
            go 9 => failed u: bad 0 0
            runs =>""");
        Talk.sentence("work: how many actions that were worked are done since the house began, a blank, how many out of the kept ones, a blank, how many failed ahead.");
        // u, v, t worked; u, v, t kept; v absent, and u half worked: not done; u worked; u kept.
        talk.says("work", "4 4 1");
        talk.says("anew t", "failed u: bad 0 0").says("work", "4 4 1").says("house", "ok").says("work", "0 0 0");
    }

    private static void anew() {
        Talk.sentence("anew T: \"no target\"; the needed targets are worked anew, as sessions do, with files, flags and targets as they are: \"failed U: W\", the lowest one that fails; \"unlike U\", the lowest one whose output or face is not that which is put (or nothing was); else \"same\". (Nothing is kept or counted.)");
        Talk talk = Talk.of("""
            anew t => no target
            put s <pub x=1|y=2> => ok
            put a <q=x> => ok
            target t=join(:app) => ok
            target app=compile(:lib,a) => ok
            target lib=compile(s) => ok
            anew t => unlike t
            anew app => unlike app
            anew lib => unlike lib
            build lib => ok
            go 9 => built
            anew lib => same
            anew app => unlike app
            build t => ok
            go 9 => built
            anew t => same
            put s <pub x=1|y=3> => ok
            anew t => unlike lib
            put s <pub x=1|pub y=2> => ok
            anew t => unlike lib
            put s <x=1|y=2> => ok
            anew lib => unlike lib
            anew t => failed app: bad 1 0
            put s <pub x=2|y=2> => ok
            anew t => unlike t
            put s <pub x=|> => ok
            anew t => failed lib: bad 0 0
            put s <pub x=1|y=1+1|> => ok
            anew t => same
            target lib=compile(s)?f=1 => ok
            anew t => failed lib: absent
            flag f 1 => ok
            anew t => same
            drop lib => ok
            anew lib => no target
            anew t => failed app: no target lib
            gone a => ok
            anew t => failed app: no target lib
            drop app => ok
            anew t => failed t: no target app
            work => 3 1 0
            kept => 3
            runs => app;t;
            why t => new""");
        talk.state(4, 6).state(5, 3).state(6, 3);
        // The lowest that fails, not the first; fails are ahead of what is unlike.
        Talk.of("""
            put a <123456789012345678901234567890> => ok
            target t=join(:u,:v,:w) => ok
            target w=join(a) => ok
            target u=compile(a) => ok
            target v=join(no) => ok
            anew t => failed u: bad 0 0
            target u=join(a) => ok
            anew t => failed v: no file no
            target v=join(a) => ok
            anew t => unlike t
            build w => ok
            go 99 => built
            anew t => unlike t
            build t => ok
            go 99 => built
            anew t => same
            put a <123456789012345678901234567890x> => ok
            anew t => unlike t""");
    }

    private static void needs() {
        Talk.sentence("needs T: \"no target\"; else the targets that it needs (but itself), by number, each followed by \";\", then the files that these and itself name, by paths, each followed by \",\".");
        Talk.of("""
            needs t => no target
            target t=join(a) => ok
            needs t => a,
            target t=join(:u) => ok
            needs t =>
            target u=join(:v) => ok
            target v=join(:w,:no) => ok
            needs t => u;v;
            target w=join(z,b,abcdefghijkl,abcdefgh,a.,a/) => ok
            needs w => a.,a/,abcdefgh,abcdefghijkl,b,z,
            needs v => w;a.,a/,abcdefgh,abcdefghijkl,b,z,
            needs t => u;v;w;a.,a/,abcdefgh,abcdefghijkl,b,z,
            target u=join(a,:v,b,:w,a) => ok
            needs t => u;v;w;a,a.,a/,abcdefgh,abcdefghijkl,b,z,
            drop v => ok
            needs t => u;w;a,a.,a/,abcdefgh,abcdefghijkl,b,z,
            needs v => no target
            drop w => ok
            needs t => u;a,b,
            drop t => ok
            needs t => no target""");
    }

    /** A row of fourteen targets that names 71 files, some of them twice. */
    private static void manyFiles() {
        Talk.sentence("then the files that these and itself name, by paths, each followed by \",\".");
        Talk talk = new Talk();
        TreeSet<String> files = new TreeSet<>();
        for (int t = 0; t < 14; t++) {
            StringBuilder inputs = new StringBuilder(t < 13 ? ":t" + (t + 1) : "last");
            for (int i = 0; i < 5; i++) {
                String file = "" + (char) ('z' - (t * 5 + i) % 26) + (t * 5 + i) / 26;
                files.add(file);
                inputs.append(',').append(file);
            }
            talk.says("target t" + t + "=join(" + inputs + ")", "ok");
        }
        files.add("last");
        Talk.due("how many files", files.size(), 71);
        talk.says("needs t0", "t1;t2;t3;t4;t5;t6;t7;t8;t9;t10;t11;t12;t13;" + String.join(",", files) + ",");
        talk.says("users last", "t0;t1;t2;t3;t4;t5;t6;t7;t8;t9;t10;t11;t12;t13;");
    }

    private static void users() {
        Talk.sentence("users P: the targets that need the file so (there or not), by number, each followed by \";\".");
        Talk.of("""
            users a =>
            target t=join(:v) => ok
            target u=join(a) => ok
            target v=join(b,a) => ok
            target w=join(:u,:t) => ok
            target a=join(:no) => ok
            users a => t;u;v;w;
            users b => t;v;w;
            users c =>
            put a <> => ok
            users a => t;u;v;w;
            users v =>
            users no =>
            drop v => ok
            users a => u;w;
            users b =>
            target v=join(abcdefghijkl) => ok
            users abcdefghijkl => t;v;w;
            users abcdefgh =>
            users abcdefghijk =>""");
    }

    private static void ways() {
        Talk.sentence("way T U: \"no target\"; \"none\"; else of the rows of targets from T to U, each naming the next one as an input, the shortest, of these the first by numbers: names with \" \" between (of T to T the one).");
        Talk.of("""
            way t t => no target
            target t=join(:x,:w,:v) => ok
            way t t => t
            way t u => no target
            way u t => no target
            target v=join(:z) => ok
            target w=join(:y) => ok
            target x=join(:y,:z) => ok
            target y=join(:end) => ok
            target z=join(:end) => ok
            target end=join(a) => ok
            way t end => t v z end
            way end t => none
            way v w => none
            way t y => t w y
            way x end => x y end
            target x=join(:y,:z,:end) => ok
            way t end => t x end
            target t=join(:x,:w,:v,:end) => ok
            way t end => t end
            way t z => t v z
            target t=join(a,:w,:no) => ok
            way t end => t w y end
            way t no => no target
            drop y => ok
            way t end => none
            way t y => no target
            way t w => t w
            drop w => ok
            way t w => no target""");
    }

    private static void longest() {
        Talk.sentence("longest T: \"no target\"; else likewise a row from T on with the most targets (of these the first by numbers): how many, \" \", the names.");
        Talk.of("""
            longest t => no target
            target t=join(a) => ok
            longest t => 1 t
            target t=join(:u,:no,b) => ok
            longest t => 1 t
            target v=join(:w) => ok
            target u=join(:w) => ok
            longest t => 2 t u
            target w=join(a) => ok
            longest t => 3 t u w
            target t=join(:u,:v) => ok
            longest t => 3 t v w
            target x=join(a) => ok
            target u=join(:x,:w) => ok
            longest u => 2 u w
            target x=join(:y) => ok
            target y=join(b) => ok
            longest t => 4 t u x y
            drop x => ok
            longest t => 3 t v w
            drop w => ok
            longest t => 2 t v
            drop v => ok
            longest t => 2 t u
            drop t => ok
            longest t => no target""");
        Talk talk = new Talk();
        StringBuilder all = new StringBuilder("14");
        for (int i = 13; i >= 0; i--) {
            talk.says("target t" + i + "=join(:t" + (i + 1) + ")", "ok");
        }
        for (int i = 0; i < 14; i++) {
            all.append(" t").append(i);
        }
        talk.says("longest t0", all.toString()).says("longest t13", "1 t13");
        talk.says("way t0 t13", all.substring(3)).says("way t13 t0", "none");
    }

    private static void kept() {
        Talk.sentence("kept: how many outcomes are kept.");
        Talk.of("""
            kept => 0
            put a <x> => ok
            target t=join(a) => ok
            build t => ok
            go 2 => on
            kept => 0
            go 1 => built
            kept => 1
            build t => ok
            go 1 => built
            kept => 1
            put a <y> => ok
            build t => ok
            go 2 => on
            stop => ok
            kept => 1
            anew t => unlike t
            kept => 1""");
    }
}
