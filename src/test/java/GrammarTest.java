/** Promise 3: the grammar, and the first wrong byte. */
public final class GrammarTest {
    private static final String[] WORDS = {"house", "put", "gone", "flag", "target", "drop", "build", "go", "stop",
        "release", "wish", "need", "unwish", "files", "show", "targets", "output", "face", "why", "runs", "work", "anew",
        "needs", "users", "way", "longest", "kept", "edition", "rules", "solve", "meets", "refute", "disprove", "cut",
        "mend"};

    public static void main(String[] args) {
        words();
        beginnings();
        names();
        texts();
        numbers();
        targets();
        trees();
        Talk talk = Talk.of("""
            put a <x> => ok
            house x => bad 5
            Files => bad 0
             files => bad 0
            files  => bad 5
            stop. => bad 4
            meets => bad 5
            meets  => bad 6
            meets 0 => bad 6
            meets 4 => bad 6
            meets 1- => bad 7
            meets 1  => bad 8
            meets 1 2 => five
            way a => bad 5
            way a  => bad 6
            way a b c => bad 7
            flag a b => bad 7
            wish 1 2 => bad 8
            wish 1 2 3 4 => bad 10
            need 1 2 3 4 => bad 12
            cut => bad 3
            cut -1 => bad 4""".stripIndent());
        // A bad request does nothing, and is told ahead of shut.
        talk.state(0, 1);
        talk.house.poke(0, 1);
        talk.says("files", "shut").says("filez", "bad 4").says("house1", "bad 5").state(0, 1);
        Talk.end();
    }

    /** Each beginning of each first word: it ends too soon, or goes on wrong. */
    private static void words() {
        Talk talk = new Talk();
        for (String word : WORDS) {
            for (int i = 1; i < word.length(); i++) {
                String begun = word.substring(0, i);
                // Also where this is another word: go, target, need want more.
                talk.says(begun, "bad " + i);
                talk.says(begun + "#", "bad " + i);
            }
            talk.says(word + "~", "bad " + word.length());
        }
        talk.eachSays("bad 1", "fz", "u", "r~");
        talk.eachSays("bad 0", "", "z", "x", "1");
        talk.eachSays("bad 2", "go", "gox", "stix", "rux");
        talk.eachSays("bad 6", "target", "targetz");
        talk.eachSays("bad 7", "targetst", "targets ");
    }

    /** Right requests of which no beginning is right: each ends too soon. */
    private static void beginnings() {
        String[] right = {"house", "put a <x>", "gone a", "flag f 1", "target a=join.w(b,:c)", "drop a", "build a",
            "go 1", "stop", "release a", "wish 1 1 1", "need 1 1 1 1 1", "unwish", "files", "show a", "output a",
            "face a", "why a", "runs", "work", "anew a", "needs a", "users a", "way a b", "longest a", "kept",
            "edition a", "rules", "solve", "meets 1", "refute", "disprove ?0!00?1!00!00!00!00!00!00", "cut 1", "mend",
            "targets"};
        Talk talk = new Talk();
        for (String request : right) {
            for (int i = 0; i < request.length(); i++) {
                talk.says(request.substring(0, i), "bad " + i);
            }
            // A sign that may nowhere stand behind it.
            talk.says(request + "^", "bad " + request.length());
        }
        String condition = "target a=join(b)?f=1";
        for (int i = 17; i < condition.length(); i++) {
            talk.says(condition.substring(0, i), "bad " + i);
        }
        talk.state(8, 0);
    }

    private static void names() {
        Talk.of("""
            drop a => no target
            drop a2345678 => no target
            drop a_b_0 => no target
            drop a23456789 => bad 13
            drop A => bad 5
            drop 1 => bad 5
            drop _ => bad 5
            drop aB => bad 6
            drop a.b => bad 6
            drop => bad 4
            drop  => bad 5
            drop  a => bad 5
            drop a  => bad 6
            show a => no file
            show a23456789_./ => no file
            show a23456789_./a => bad 17
            show a/b.c_1 => no file
            show .a => bad 5
            show /a => bad 5
            show 1a => bad 5
            show a-b => bad 6
            show :a => bad 5""".stripIndent());
    }

    private static void texts() {
        Talk talk = new Talk();
        String signs = "";
        for (char c = 32; c < 127; c++) {
            signs += c == '>' ? "" : c;
        }
        talk.says("put a <" + signs + ">", "ok").says("show a", signs);
        talk.says("put a <>", "ok").says("show a", "");
        talk.says("put a <" + "x".repeat(160) + ">", "ok").says("show a", "x".repeat(160));
        talk.says("put a <" + "x".repeat(161) + ">", "bad 167");
        talk.says("put a <" + "x".repeat(160), "bad 167");
        talk.says("put a <x>>", "bad 9").says("put a <x> ", "bad 9").says("put a x", "bad 6");
        talk.says("put a <x\ny>", "bad 8").says("put a <x\u007f>", "bad 8").says("put a <\u00e9>", "bad 7");
        talk.says("put a <\u001f>", "bad 7").says("put a<x>", "bad 5").says("put  a <x>", "bad 4");
    }

    private static void numbers() {
        Talk.of("""
            flag f 0 => ok
            flag f 9999 => ok
            flag f 10000 => bad 11
            flag f 00 => bad 8
            flag f 01 => bad 8
            flag f  => bad 7
            flag f -1 => bad 7
            go 9999 => no session
            go 12345 => bad 7
            go 1x => bad 4""".stripIndent());
    }

    private static void targets() {
        Talk.of("""
            target a=join(b) => ok
            target a=join(b,c,d,e,f,:g) => ok
            target a=join(b,c,d,e,f,g,h) => bad 25
            target a=join() => bad 14
            target a=join(b,) => bad 16
            target a=join(b => bad 15
            target a=join b => bad 13
            target a=join. => bad 14
            target a=join.(b) => bad 14
            target a=join.w.w(b) => bad 15
            target a=j23456789(b) => bad 17
            target a=grep.w2345678(b) => ok
            target a=grep.w23456789(b) => bad 22
            target a23456789=join(b) => bad 15
            target a =join(b) => bad 8
            target a=join(:b.c) => bad 16
            target a=join(:b2345678) => ok
            target a=join(:b23456789) => bad 23
            target a=join(b.c/d) => ok
            target a=join(::b) => bad 15
            target a=join(b)?f=1 => ok
            target a=join(b)?f=0 => ok
            target a=join(b)? => bad 17
            target a=join(b)?f => bad 18
            target a=join(b)?f= => bad 19
            target a=join(b)?f=01 => bad 20
            target a=join(b)?f=10000 => bad 23
            target a=join(b)?f.x=1 => bad 18
            target a=join(b)?f=1?g=1 => bad 20
            target a=join(b)x => bad 16
            target a=join(b)  => bad 16""".stripIndent());
    }

    private static void trees() {
        Talk talk = Talk.of("""
            disprove !00 => open 0
            disprove => bad 8
            disprove  => bad 9
            disprove ! => bad 10
            disprove !0 => bad 11
            disprove !000 => bad 12
            disprove ? => bad 10
            disprove ?x => bad 10
            disprove ?0!00!00!00 => bad 20
            disprove ?0!00!00!00!00 => open 0
            disprove ?0!00!00!00!00!00 => bad 23
            disprove ?0!00!00!00!00?0 => bad 23
            disprove ?0x => bad 11
            disprove ?0!00?1!00!00!00!00!00!0x => bad 33
            disprove 0 => bad 9""".stripIndent());
        // As deep as the tape can be: it ends too soon at its end.
        talk.says("disprove " + "?0".repeat(1990), "bad 3989");
        // Deep, and whole.
        talk.says("disprove " + "?0".repeat(360) + "!00".repeat(3 * 360 + 1), "open 0");
    }
}
