/** The edges of the grammar, sentence by sentence: how many signs at most, which ones, and the first wrong byte. */
public final class EdgesOfGrammarTest {
    public static void main(String[] args) {
        firstWrongByte();
        names();
        paths();
        texts();
        rules();
        inputs();
        conditions();
        versions();
        trees();
        numbers();
        blanks();
        aheadOfAll();
        Talk.end();
    }

    private static void firstWrongByte() {
        Talk.sentence("THE FIRST WRONG BYTE is that up to and with which no right request begins");
        Talk.of("""
            ~ => bad 0
            Xhouse => bad 0
            horse => bad 2
            housewife => bad 5
            pot a <x> => bad 1
            putt => bad 3
            rulez => bad 4
            run => bad 3
            runt => bad 3
            targett => bad 6
            targets a => bad 7
            needs => bad 5
            needst => bad 5
            need t => bad 5
            needs 1 => bad 6
            gonna => bad 3
            got => bad 2
            go 1 2 => bad 4
            unwash => bad 3
            user => bad 4
            wishes => bad 4
            drop a b => bad 6
            way a b. => bad 7
            way a.b c => bad 5
            flag f.g 1 => bad 6
            release a/b => bad 9""");

        Talk.sentence("(its place is how many bytes there are, when it ends too soon)");
        String[] right = {"house", "put abcdefghijkl <x>", "gone a", "flag f_1 0", "target a=grep.w(b/c,:d,e)?f=0",
            "drop a", "build a", "go 0", "stop", "release a", "wish 0 1 1", "need 0 1 0 1 1", "unwish", "files", "show a",
            "targets", "output a", "face a", "why a", "runs", "work", "anew a", "needs a", "users a", "way a b",
            "longest a", "kept", "edition a", "rules", "solve", "meets -", "refute", "disprove ?0!00?1!01!01!02!01!00!00",
            "cut 0", "mend"};
        for (String request : right) {
            Talk talk = new Talk();
            for (int i = 0; i < request.length(); i++) {
                String begun = request.substring(0, i);
                // A target may end ahead of its condition.
                if (begun.endsWith(")")) {
                    talk.tell(begun);
                } else {
                    talk.says(begun, "bad " + i);
                }
            }
        }
    }

    private static void names() {
        Talk.sentence("name: a to z, then a to z, digits, _ (8 signs at most).");
        // The signs that stand next to those that may be there: ` { for letters, / : for digits, ^ ` for _.
        Talk talk = new Talk();
        talk.eachSays("no target", "drop a", "drop z", "drop aa", "drop az", "drop a0", "drop a9", "drop a_", "drop z__0");
        talk.eachSays("bad 5", "drop `", "drop {", "drop @", "drop A", "drop Z", "drop [", "drop 0", "drop 9", "drop _",
            "drop .", "drop /", "drop :", "drop -", "drop \u00e1", "drop \u0000", "drop \n");
        talk.eachSays("bad 6", "drop a`", "drop a{", "drop a@", "drop aA", "drop aZ", "drop a[", "drop a/", "drop a:",
            "drop a^", "drop a.", "drop a-", "drop a\u00e1", "drop a\u00b0", "drop a\u0000", "drop a\n");
        talk.says("drop abcdefgh", "no target").says("drop abcdefghi", "bad 13").says("drop a_______", "no target");
        talk.says("drop a________", "bad 13").says("drop a23456789", "bad 13");
        // Wherever a name stands.
        talk.says("way abcdefgh abcdefgh", "no target").says("way abcdefghi a", "bad 12").says("way a abcdefghi", "bad 14");
        talk.says("flag abcdefgh 1", "ok").says("flag abcdefghi 1", "bad 13");
        talk.says("target abcdefgh=join(:abcdefgh)", "circle").says("target abcdefghi=join(a)", "bad 15");
        for (String word : new String[] {"build", "release", "output", "face", "why", "anew", "needs", "longest",
            "edition"}) {
            int at = word.length() + 1;
            talk.says(word + " abcdefghi", "bad " + (at + 8)).says(word + " a.", "bad " + (at + 1));
            talk.says(word + " A", "bad " + at).says(word + " 1", "bad " + at);
        }
    }

    private static void paths() {
        Talk.sentence("path: a to z, then a to z, digits, _ . / (12 at most).");
        Talk talk = new Talk();
        talk.eachSays("no file", "show a", "show z", "show a.", "show a/", "show a_", "show a0", "show a9", "show az",
            "show a../_", "gone a./9");
        talk.eachSays("bad 5", "show `", "show {", "show A", "show .", "show /", "show _", "show 0", "show 9", "show :",
            "show -", "gone .", "gone /");
        talk.eachSays("bad 6", "show a`", "show a{", "show aA", "show a:", "show a-", "show a,", "show a^", "show a@",
            "show a\\", "show a\u00ae");
        talk.says("show abcdefghijkl", "no file").says("show abcdefghijklm", "bad 17").says("show a./_a./_a./_", "no file");
        talk.says("show a./_a./_a./_.", "bad 17").says("gone abcdefghijkl", "no file").says("gone abcdefghijklm", "bad 17");
        talk.says("put abcdefghijkl <>", "ok").says("put abcdefghijklm <>", "bad 16").says("put A <>", "bad 4");
        talk.says("users abcdefghijkl", "").says("users abcdefghijklm", "bad 18");
        talk.says("files", "abcdefghijkl 0;").says("target t=join(abcdefghijkl)", "ok");
        talk.says("target t=join(abcdefghijklm)", "bad 26");
    }

    private static void texts() {
        Talk.sentence("text: \"<\" (32 to 126 but > )* \">\" (160 between at most).");
        Talk talk = new Talk();
        for (char sign : new char[] {32, 33, '<', '=', '?', '|', '\\', '"', 125, 126}) {
            talk.says("put a <" + sign + ">", "ok").says("show a", "" + sign);
        }
        for (char sign : new char[] {0, 9, 10, 13, 31, 127, 128, 160, 255}) {
            talk.says("put a <" + sign + ">", "bad 7").says("put a <~" + sign, "bad 8");
        }
        talk.says("show a", "~");
        talk.says("put a <>", "ok").says("show a", "").says("put a <>>", "bad 8").says("put a <<>", "ok").says("show a", "<");
        talk.says("put a >", "bad 6").says("put a x", "bad 6").says("put a ", "bad 6");
        for (int signs : new int[] {159, 160}) {
            String text = "z".repeat(signs - 1) + "~";
            talk.says("put a <" + text + ">", "ok").says("show a", text).says("put a <" + text, "bad " + (7 + signs));
        }
        talk.says("put a <" + "y".repeat(161) + ">", "bad 167").says("put a <" + "y".repeat(161), "bad 167");
        talk.says("put a <" + "y".repeat(160) + "\n>", "bad 167").says("put a <" + "y".repeat(500) + ">", "bad 167");
        // Each | is one of the 160.
        talk.says("put a <" + "|".repeat(160) + ">", "ok").says("put a <" + "|".repeat(161) + ">", "bad 167");
        talk.says("files", "a 160;");
    }

    private static void rules() {
        Talk.sentence("rule: name (\".\" name)?.");
        Talk.of("""
            target a=(b) => bad 9
            target a= => bad 9
            target a=.w(b) => bad 9
            target a=1(b) => bad 9
            target a=join => bad 13
            target a=join.(b) => bad 14
            target a=join. => bad 14
            target a=join.1(b) => bad 14
            target a=join.w.w(b) => bad 15
            target a=join..w(b) => bad 14
            target a=grep.w => bad 15
            target a=grep.w_0(b) => ok
            target a=grep.abcdefgh(b) => ok
            target a=grep.abcdefghi(b) => bad 22
            target a=abcdefgh(b) => no rule
            target a=abcdefghi(b) => bad 17
            target a=join/w(b) => bad 13
            target a=grep w(b) => bad 13
            target a=joiN(b) => bad 12
            target =join(b) => bad 7
            target a:join(b) => bad 8""");
    }

    private static void inputs() {
        Talk.sentence("input: path | \":\" name (where inputs stand: 1 to 6).");
        Talk.of("""
            target a=join() => bad 14
            target a=join(b) => ok
            target a=join(b,b,b,b,b) => ok
            target a=join(b,b,b,b,b,b) => ok
            target a=join(b,b,b,b,b,b,b) => bad 25
            target a=join(b,b,b,b,b,b, => bad 25
            target a=join(b,b,b,b,b,b => bad 25
            target a=join(:b,:b,:b,:b,:b,:b) => ok
            target a=join(:b,:b,:b,:b,:b,:b,:b) => bad 31
            target a=join(:b,b,:b,b,:b,b) => ok
            target a=join(,b) => bad 14
            target a=join(b,) => bad 16
            target a=join(b,,b) => bad 16
            target a=join(b, b) => bad 16
            target a=join(b;b) => bad 15
            target a=join(:) => bad 15
            target a=join(::b) => bad 15
            target a=join(:1) => bad 15
            target a=join(:_) => bad 15
            target a=join(:b.) => bad 16
            target a=join(:b/) => bad 16
            target a=join(b:) => bad 15
            target a=join(.b) => bad 14
            target a=join(/b) => bad 14
            target a=join(:abcdefgh) => ok
            target a=join(:abcdefghi) => bad 23
            target a=join(abcdefghijkl) => ok
            target a=join(abcdefghijklm) => bad 26
            target a=join((b) => bad 14
            target a=join(b)) => bad 16
            targets => a=join(abcdefghijkl);""");
        // The longest one, of 126 bytes.
        Talk talk = new Talk();
        String longest = "abcdefgh=grep.abcdefgh(abcdefghijkl,abcdefghijkl,abcdefghijkl,abcdefghijkl,abcdefghijkl,"
            + "abcdefghijkl)?abcdefgh=9999";
        talk.says("target " + longest, "ok").says("targets", longest + ";").state(8, longest.length() + 9);
        talk.says("target " + longest + "9", "bad " + (longest.length() + 7));
    }

    private static void conditions() {
        Talk.sentence("(\"?\" name \"=\" n)?");
        Talk.of("""
            target a=join(b)?f=0 => ok
            target a=join(b)?f=9999 => ok
            target a=join(b)?abcdefgh=1 => ok
            target a=join(b)?abcdefghi=1 => bad 25
            target a=join(b)? => bad 17
            target a=join(b)?=1 => bad 17
            target a=join(b)?1=1 => bad 17
            target a=join(b)?f => bad 18
            target a=join(b)?f1 => bad 19
            target a=join(b)?f= => bad 19
            target a=join(b)?f=x => bad 19
            target a=join(b)?f=-1 => bad 19
            target a=join(b)?f=00 => bad 20
            target a=join(b)?f=01 => bad 20
            target a=join(b)?f=12345 => bad 23
            target a=join(b)?f=1?f=1 => bad 20
            target a=join(b)?f=1) => bad 20
            target a=join(b)f=1 => bad 16
            target a=join(b)=1 => bad 16
            target a=join(b)?f.g=1 => bad 18
            targets => a=join(b)?abcdefgh=1;""");
    }

    private static void versions() {
        Talk.sentence("version: \"-\" | \"1\" | \"2\" | \"3\".");
        Talk talk = new Talk();
        talk.eachSays("five", "meets -", "meets 1", "meets 2", "meets 3", "meets - 1 2 3", "meets 1 1 1 1 1 1");
        talk.says("meets - 1 2 3 -", "meets");
        talk.eachSays("bad 6", "meets 0", "meets 4", "meets ,", "meets .", "meets /", "meets :", "meets ", "meets a",
            "meets  1");
        talk.eachSays("bad 7", "meets --", "meets 12", "meets 1-", "meets 1,2", "meets -1");
        talk.eachSays("bad 8", "meets 1 ", "meets 1 0", "meets 1 4", "meets -  -");
        talk.says("meets", "bad 5").says("meets1", "bad 5");
        // As many as the tape can hold.
        talk.says("meets" + " 3".repeat(1997), "five").says("meets" + " 3".repeat(1997) + " ", "bad 4000");
    }

    private static void trees() {
        Talk.sentence("tree: \"?\" digit tree tree tree tree | \"!\" digit digit.");
        Talk.of("""
            disprove !00 => open 0
            disprove !99 => open 0
            disprove !/0 => bad 10
            disprove !:0 => bad 10
            disprove !0/ => bad 11
            disprove !0: => bad 11
            disprove ?/ => bad 10
            disprove ?: => bad 10
            disprove ?- => bad 10
            disprove  => bad 9
            disprove => bad 8
            disprove ! => bad 10
            disprove !0 => bad 11
            disprove ? => bad 10
            disprove ?0 => bad 11
            disprove ?00 => bad 11
            disprove 00 => bad 9
            disprove - => bad 9
            disprove !00!00 => bad 12
            disprove !00?0 => bad 12
            disprove !000 => bad 12
            disprove !00  => bad 12
            disprove ?0!00!00!00 => bad 20
            disprove ?0!00!00!00! => bad 21
            disprove ?0!00!00!00!0 => bad 22
            disprove ?0!00!00!00!00 => open 0
            disprove ?9!00!00!00!00 => open 0
            disprove ?0!00!00!00!00!00 => bad 23
            disprove ?0!00!00!00!00?0 => bad 23
            disprove ?0 !00!00!00!00 => bad 11
            disprove ?0?0!00!00!00!00!00!00 => bad 31
            disprove ?0?0!00!00!00!00!00!00!00 => open 0
            disprove ?0!00!00!00?0!00!00!00!00 => open 0
            disprove ?0!00!00!00?0!00!00!00!00!00 => bad 34""");
    }

    private static void numbers() {
        Talk.sentence("n: \"0\", or one to four digits of which the first is not 0.");
        Talk talk = new Talk();
        talk.eachSays("no session", "go 0", "go 1", "go 9", "go 10", "go 99", "go 100", "go 999", "go 1000", "go 9999");
        talk.says("go 00", "bad 4").says("go 01", "bad 4").says("go 0000", "bad 4").says("go 10000", "bad 7");
        talk.says("go 99999", "bad 7").says("go", "bad 2").says("go ", "bad 3").says("go -0", "bad 3").says("go +1", "bad 3");
        talk.says("go /", "bad 3").says("go :", "bad 3").says("go 1/", "bad 4").says("go 1:", "bad 4").says("go 1.", "bad 4");
        talk.says("go x", "bad 3").says("go 1x", "bad 4").says("go \u00b2", "bad 3");
        // Wherever one stands.
        talk.says("cut 0", "no cut").says("cut 9999", "no cut").says("cut 10000", "bad 8").says("cut 00", "bad 5");
        talk.says("flag f 9999", "ok").says("flag f 10000", "bad 11").says("flag f 00", "bad 8").says("flag f ", "bad 7");
        talk.says("wish 9999 1 1", "no part").says("wish 10000 1 1", "bad 9").says("wish 0 9999 1", "no version");
        talk.says("wish 0 10000 1", "bad 11").says("wish 0 1 9999", "no version").says("wish 0 1 10000", "bad 13");
        talk.says("wish 0 1", "bad 8").says("wish 0 1 ", "bad 9").says("wish 0 1 1 1", "bad 10").says("wish 00 1 1", "bad 6");
        talk.says("need 0 1 9999 1 1", "no part").says("need 9999 1 0 1 1", "no part").says("need 0 9999 0 1 1", "no version");
        talk.says("need 0 1 1 1", "bad 12").says("need 0 1 1 1 ", "bad 13").says("need 0 1 1 1 1 1", "bad 14");
        talk.says("need 0 1 1 1 01", "bad 14").says("need 0 1 1 1 10000", "bad 17").says("need 10000 1 1 1 1", "bad 9");
    }

    private static void blanks() {
        Talk.sentence("[ ] stands for a blank (32)");
        Talk talk = new Talk();
        talk.says("put  a <>", "bad 4").says("put a  <>", "bad 6").says("put a<>", "bad 5").says("put\ta <>", "bad 3");
        talk.says("put a\t<>", "bad 5").says("put a <> ", "bad 8").says(" put a <>", "bad 0").says("puta <>", "bad 3");
        talk.says("gone  a", "bad 5").says("flag f  1", "bad 7").says("flag  f 1", "bad 5").says("flag f1", "bad 7");
        talk.says("way a  b", "bad 6").says("way a b ", "bad 7").says("way  a b", "bad 4").says("wish 0  1 1", "bad 7");
        talk.says("stop ", "bad 4").says("house ", "bad 5").says("files ", "bad 5").says("mend ", "bad 4");
        talk.says("target  a=join(b)", "bad 7").says("target a= join(b)", "bad 9").says("target a=join (b)", "bad 13");
        talk.says("target a=join( b)", "bad 14").says("target a=join(b )", "bad 15").says("target a=join(b) ", "bad 16");
        talk.says("disprove  !00", "bad 9").says("meets 1  2", "bad 8").says("cut  1", "bad 4").says("go\u00201\n", "bad 4");
    }

    private static void aheadOfAll() {
        Talk.sentence("\"bad K\": K is the place of the first wrong byte (nothing is done; ahead of all others, also when the book is shut).");
        Talk talk = Talk.of("""
            put a <x> => ok
            target t=join(a) => ok
            build t => ok""");
        // Each would be refused, or done, but for its last byte.
        talk.says("put a <y", "bad 8").says("gone z ", "bad 6").says("build zz.", "bad 8").says("build t ", "bad 7");
        talk.says("wish 9 9 9 ", "bad 10").says("target t=nope(b))", "bad 16").says("go 9.", "bad 4").says("stop.", "bad 4");
        talk.says("drop t,", "bad 6").says("gone a,", "bad 6").says("house,", "bad 5").says("cut 0 ", "bad 5");
        talk.says("show a", "x").state(8, 11 + 18 + 9).state(3, 1).state(4, 0).state(1, 1);
        // Ahead of the book's room, too.
        for (int i = 0; i < 11; i++) {
            talk.says("put b <" + "x".repeat(158) + ">", "ok");
        }
        talk.says("put b <" + "x".repeat(160) + ">", "no room").says("put b <" + "x".repeat(161) + ">", "bad 167");
        // And when the book is shut.
        talk.house.poke(0, 1);
        talk.says("mend.", "bad 4").says("house.", "bad 5").says("file", "bad 4").says("", "bad 0").says("cut x", "bad 4");
        talk.says("put a <y", "bad 8").says("put a <y>", "shut").says("mend", "0");
        // What was asked ahead of a bad request does not matter.
        talk.says("put a <1>", "ok").says("mend", "1").says("", "bad 0").says("mend", "1").says("x", "bad 0").says("show a", "1");
    }
}
