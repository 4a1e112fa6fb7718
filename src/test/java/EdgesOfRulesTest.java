import java.math.BigInteger;

/** The edges of files, flags, targets, lines, rules, compile and the digest, sentence by sentence. */
public final class EdgesOfRulesTest {
    public static void main(String[] args) {
        files();
        flags();
        targets();
        lines();
        joins();
        sorts();
        uniqs();
        uppers();
        greps();
        countsAndDigests();
        tooLarge();
        sources();
        faces();
        values();
        badLines();
        largeCompiles();
        digest();
        Talk.end();
    }

    /** Tells the target t, builds it, and looks at its output. */
    private static void makes(Talk talk, String definition, String output) {
        talk.says("target t=" + definition, "ok").says("build t", "ok").says("go 9999", "built").says("output t", output);
    }

    private static void fails(Talk talk, String definition, String why) {
        talk.says("target t=" + definition, "ok").says("build t", "ok").says("go 9999", "failed t: " + why);
    }

    private static void puts(Talk talk, String... pathsAndTexts) {
        for (int i = 0; i < pathsAndTexts.length; i += 2) {
            talk.says("put " + pathsAndTexts[i] + " <" + pathsAndTexts[i + 1] + ">", "ok");
        }
    }

    private static void files() {
        Talk.sentence("FILES (at most 16) have a path and BYTES: a text's, each | being 10.");
        Talk talk = new Talk();
        for (int i = 0; i < 15; i++) {
            puts(talk, "f" + i, "");
        }
        puts(talk, "abcdefghijkl", "||");
        talk.state(0, 16).says("put more <>", "no room").says("show more", "no file").state(0, 16);
        puts(talk, "abcdefghijkl", "|", "f0", "x");
        talk.says("put abcdefgh <>", "no room").says("put abcdefghijk <>", "no room").says("gone more", "no file");
        talk.says("show abcdefghijkl", "|").says("show f0", "x").says("show f1", "");
        makes(talk, "digest(abcdefghijkl)", "af63c74c8601c8dd|");
        talk.says("gone abcdefghijk", "no file").says("gone abcdefgh", "no file").says("gone abcdefghijkl", "ok");
        puts(talk, "abcdefgh", "1");
        // The rest of a path counts where the first eight signs are alike.
        talk.says("gone abcdefghi", "no file").says("show abcdefghi", "no file").says("put abcdefghi <>", "no room").state(0, 16);
    }

    private static void flags() {
        Talk.sentence("FLAGS (at most 6) are names with numbers, 0 when not told.");
        Talk talk = new Talk();
        puts(talk, "a", "x");
        makes(talk, "join(a)?f=0", "x");
        fails(talk, "join(a)?f=1", "absent");
        // A flag that is told again is no other one.
        talk.says("flag f 2", "ok").says("flag g 1", "ok");
        talk.eachSays("ok", "flag f 1", "flag g 0", "flag h 9999", "flag i 0", "flag j 0", "flag k 0");
        talk.says("flag l 0", "no room").says("flag l 1", "no room").says("flag abcdefgh 0", "no room");
        makes(talk, "join(a)?f=1", "x");
        fails(talk, "join(a)?f=0", "absent");
        makes(talk, "join(a)?h=9999", "x");
        // What was refused is not told; what was told may be told again, also with no room.
        makes(talk, "join(a)?l=0", "x");
        fails(talk, "join(a)?l=1", "absent");
        talk.says("flag f 0", "ok").says("flag k 2", "ok");
        makes(talk, "join(a)?f=0", "x");
        makes(talk, "join(a)?k=2", "x");
    }

    private static void targets() {
        Talk.sentence("TARGETS 0, 1, .. (at most 14 names, in the order in which they first came, those that were dropped with them)");
        Talk talk = new Talk();
        for (int i = 0; i < 14; i++) {
            talk.says("target t" + i + "=join(:t" + (i + 1) + ",nofile)", "ok");
        }
        talk.says("target t14=join(a)", "no room").state(1, 14).says("way t0 t14", "no target");
        // A name that was refused has no number, one that was dropped has kept its own.
        talk.says("drop t3", "ok").says("target t14=join(a)", "no room").says("target t3=join(a)", "ok");
        talk.says("users a", "t0;t1;t2;t3;").says("needs t2", "t3;a,nofile,").says("drop t13", "ok").says("drop t0", "ok");
        talk.says("target t13=join(:t12)", "circle").says("target t13=join(b)", "ok").says("target t0=join(b)", "ok");
        talk.says("target t1=join(b)", "ok").says("users b", "t0;t1;t4;t5;t6;t7;t8;t9;t10;t11;t12;t13;");
        talk.state(1, 14);
        Talk.sentence("INPUTS (files and targets, which need not be there)");
        Talk.of("""
            target a=join(a,:b,c/d) => ok
            build a => ok
            go 1 => failed a: no file a
            put a <> => ok
            build a => ok
            go 1 => failed a: no target b
            target b=join(a) => ok
            build a => ok
            go 9 => failed a: no file c/d""");
    }

    private static void lines() {
        Talk.sentence("LINES of bytes end with 10 (or the end); what is behind the last 10 is none when it is empty.");
        String[][] counted = {{"", "0"}, {"a", "1"}, {"a|", "1"}, {"|", "1"}, {"||", "2"}, {"|a", "2"}, {"a||", "2"},
            {"a|b", "2"}, {"a|b|", "2"}, {"|||a", "4"}, {" ", "1"}, {"|".repeat(160), "160"}};
        for (String[] c : counted) {
            Talk talk = new Talk();
            puts(talk, "a", c[0]);
            makes(talk, "count(a)", c[1] + "|");
            makes(talk, "grep.z(a)", "");
            // Each line, and none more, has its 10.
            makes(talk, "sort(a)", c[0].equals("|a") || c[0].equals("|||a") ? c[0] + "|"
                    : c[0].equals("a||") ? "|a|" : c[0].isEmpty() || c[0].endsWith("|") ? c[0] : c[0] + "|");
        }
    }

    private static void joins() {
        Talk.sentence("join: all, one behind the other.");
        Talk talk = new Talk();
        puts(talk, "a", "", "b", "x", "c", "|");
        makes(talk, "join(a)", "");
        makes(talk, "join(a,a,a,a,a,a)", "");
        makes(talk, "join(b,b)", "xx");
        makes(talk, "join(b,c,a,c,b,b)", "x||xx");
    }

    private static void sorts() {
        Talk.sentence("sort: all lines of all inputs, by their bytes (the shorter one first, when it is the beginning of the other), each followed by 10.");
        Talk talk = new Talk();
        puts(talk, "a", "abc|ab|abcd||a|", "b", "b", "c", "a", "e", "", "f", "|", "g", "~|z|{|Z|_|0| |!|}");
        makes(talk, "sort(a)", "|a|ab|abc|abcd|");
        // Lines of inputs, not of join: b and c have one each, though join has one of both.
        makes(talk, "sort(b,c)", "a|b|");
        makes(talk, "sort(b,e,c)", "a|b|");
        makes(talk, "sort(e)", "");
        makes(talk, "sort(e,e,e)", "");
        makes(talk, "sort(b,f,f,e)", "||b|");
        makes(talk, "sort(b,b,b)", "b|b|b|");
        makes(talk, "sort(g)", " |!|0|Z|_|z|{|}|~|");
    }

    private static void uniqs() {
        Talk.sentence("uniq: of all lines of join those that are not like the line ahead, each followed by 10.");
        Talk talk = new Talk();
        puts(talk, "a", "a|a|b|a", "b", "a", "c", "|", "e", "", "f", "ab|a|abc|abc");
        makes(talk, "uniq(a)", "a|b|a|");
        makes(talk, "uniq(a,b)", "a|b|aa|");
        makes(talk, "uniq(a,c,b)", "a|b|a|");
        makes(talk, "uniq(b)", "a|");
        makes(talk, "uniq(e)", "");
        makes(talk, "uniq(c)", "|");
        makes(talk, "uniq(c,c,c,b,c,c)", "|a||");
        makes(talk, "uniq(f)", "ab|a|abc|");
        makes(talk, "uniq(b,b,c,b,b)", "aa|");
    }

    private static void uppers() {
        Talk.sentence("upper: join with great letters.");
        Talk talk = new Talk();
        puts(talk, "a", "`az{|@AZ[|", "b", "m", "e", "");
        makes(talk, "upper(a)", "`AZ{|@AZ[|");
        makes(talk, "upper(b,b,a)", "MM`AZ{|@AZ[|");
        makes(talk, "upper(e)", "");
    }

    private static void greps() {
        Talk.sentence("grep (with a word): the lines of join in which the word stands, each followed by 10.");
        Talk talk = new Talk();
        puts(talk, "a", "one|on|e|xone|onex|xonex|oone|o|", "b", "on", "c", "e", "d", "abcdefgh|abcdefg|xabcdefghi", "e", "");
        makes(talk, "grep.one(a)", "one|xone|onex|xonex|oone|");
        makes(talk, "grep.o(b)", "on|");
        makes(talk, "grep.n(b)", "on|");
        // A line of both inputs; not one across two lines.
        makes(talk, "grep.one(b,c)", "one|");
        makes(talk, "grep.one(c,b)", "");
        makes(talk, "grep.abcdefgh(d)", "abcdefgh|xabcdefghi|");
        makes(talk, "grep.one(e)", "");
        puts(talk, "a", "a_1|a_|a-1|A_1|aa_1");
        makes(talk, "grep.a_1(a)", "a_1|aa_1|");
    }

    private static void countsAndDigests() {
        Talk.sentence("count: how many lines join has, 10. digest: the 16 signs of join's DIGEST, 10.");
        Talk talk = new Talk();
        puts(talk, "a", "a|", "b", "b", "e", "", "m", "|".repeat(160));
        makes(talk, "count(b,b,b)", "1|");
        makes(talk, "count(a,b)", "2|");
        makes(talk, "count(b,a)", "1|");
        makes(talk, "count(b,e,a,e)", "1|");
        makes(talk, "count(e,e)", "0|");
        makes(talk, "count(m,m,m,m,m,m)", "960|");
        makes(talk, "digest(e)", "cbf29ce484222325|");
        makes(talk, "digest(a,b)", "e5beb1190415e670|");
        makes(talk, "digest(e,a,e,b,e)", "e5beb1190415e670|");
    }

    private static void tooLarge() {
        Talk.sentence("An output of more than 600 bytes: the action FAILS: \"too large\".");
        String[] lines = {line('d', 149), line('c', 149), line('b', 149), line('a', 149), line('a', 150)};
        String down = lines[0] + lines[1] + lines[2];
        String up = lines[2] + lines[1] + lines[0];
        // A last line with its 10: of 600 bytes, and of 601.
        large("join", lines[3], down + lines[3]);
        large("upper", lines[3], (down + lines[3]).toUpperCase());
        large("sort", lines[3], lines[3] + up);
        large("uniq", lines[3], down + lines[3]);
        for (String rule : new String[] {"join", "upper", "sort", "uniq"}) {
            large(rule, lines[4], null);
        }
        // A last line without: it is the end's that has its 10 in sort, uniq and grep, and none in join and upper.
        String bare = "a".repeat(150);
        large("join", bare, down + bare);
        large("upper", bare, (down + bare).toUpperCase());
        large("sort", bare, null);
        large("uniq", bare, null);
        large("join", bare + "a", null);
        large("upper", bare + "a", null);
        large("sort", bare.substring(1), lines[3] + up);
        large("uniq", bare.substring(1), down + lines[3]);
        // Only the output counts, not what is joined.
        large("count", bare + "bbbbbbbbb|", "4|");
        large("grep.x", bare + "x", bare + "x|");
        large("grep.a", bare + "|" + bare.substring(141), bare + "|" + bare.substring(141) + "|");
        Talk talk = new Talk();
        puts(talk, "a", lines[0], "b", "d".repeat(150) + "|", "c", "d".repeat(149));
        makes(talk, "uniq(a,a,a,a,a,a)", lines[0]);
        makes(talk, "grep.d(a,a,a,a)", lines[0].repeat(4));
        makes(talk, "grep.d(a,a,a,c)", lines[0].repeat(4));
        makes(talk, "grep.ddd(a,a,a,a)", lines[0].repeat(4));
        fails(talk, "grep.d(b,a,a,a)", "too large");
        fails(talk, "grep.d(a,a,a,b)", "too large");
        talk.says("output t", lines[0].repeat(4)).says("face t", lines[0].repeat(4));
    }

    private static String line(char sign, int signs) {
        return ("" + sign).repeat(signs) + "|";
    }

    /** A rule's output of lines of d, c, b, 450 bytes, and a last text behind them; too large without an output. */
    private static void large(String rule, String last, String output) {
        Talk talk = new Talk();
        puts(talk, "a", line('d', 149), "b", line('c', 149), "c", line('b', 149), "e", last);
        if (output == null) {
            fails(talk, rule + "(a,b,c,e)", "too large");
        } else {
            makes(talk, rule + "(a,b,c,e)", output);
            talk.says("face t", output);
        }
    }

    private static void sources() {
        Talk.sentence("A source's line: (\"pub \")? name \"=\" term (\"+\" term)*, a term: factor (\"*\" factor)*, a factor: n or name; or an empty line.");
        String[][] right = {{"", ""}, {"|", ""}, {"|||", ""}, {"x=0", "x=0|"}, {"x=9999|", "x=9999|"}, {"|x=1||y=2|", "x=1|y=2|"},
            {"x=1||", "x=1|"}, {"pub=1", "pub=1|"}, {"pub pub=1", "pub=1|"}, {"x0=1|y=x0", "x0=1|y=1|"},
            {"x9_=1|y=x9_", "x9_=1|y=1|"}, {"abcdefgh=1|y=abcdefgh", "abcdefgh=1|y=1|"}, {"x=1+2*3+4", "x=11|"},
            {"x=2*3*4", "x=24|"}, {"x=2*3+4*5", "x=26|"}, {"x=0*9999+0", "x=0|"}, {"x=1+1+1+1+1+1", "x=6|"},
            {"pub_=1|pubs=2", "pub_=1|pubs=2|"}, {"x=1|xx=x|xxx=xx", "x=1|xx=1|xxx=1|"}};
        for (String[] r : right) {
            Talk talk = new Talk();
            puts(talk, "a", r[0]);
            makes(talk, "compile(a)", r[1]);
        }
        String[] wrong = {" ", "x", "x=", "=1", "x=1 ", " x=1", "x =1", "x= 1", "x=1+", "x=+1", "x=1*", "x=*1", "x=1+*1",
            "x=1++1", "x=1**1", "x=1-1", "x=1/1", "x=00", "x=01", "x=10000", "x=1+10000", "x=(1)", "x=1=1", "x==1", "X=1",
            "x=Y", "0=1", "_=1", "x.=1", "x/=1", "pub", "pub ", "pub x", "pub =1", "pub  x=1", "pub pub x=1", "Pub x=1",
            "pubx x=1", "pub\\x=1", "abcdefghi=1", "x=abcdefghi", "x=1x", "x=1_", "x=x", "x=y", "x=1,y=2", "pub x = 1",
            "x:1", "x=1+y", "x=y*0"};
        for (String w : wrong) {
            Talk talk = new Talk();
            puts(talk, "a", w);
            fails(talk, "compile(a)", "bad 0 0");
        }
        // Eight signs are the most of a name, in each place; ninth ones begin nothing.
        Talk talk = new Talk();
        puts(talk, "a", "abcdefgh=1|x=abcdefghi");
        fails(talk, "compile(a)", "bad 0 1");
    }

    private static void faces() {
        Talk.sentence("A face's line (of a target that is not of compile, too): name \"=\" n.");
        String[] right = {"x=0", "x=9999|", "x0=1", "a_9=2|", "abcdefgh=1", "x=1|x=1|x=2", "z9_=10|z9_0=100", ""};
        String[] wrong = {"|", "x=1||", "|x=1", "x", "x=", "=1", "x=00", "x=01", "x=10000", "x=y", "x=1+1", "x=1*1", "pub x=1",
            " x=1", "x=1 ", "x =1", "X=1", "0=1", "_=1", "abcdefghi=1", "x.y=1", "x+1", "x=1=1", "x:1", "x1", "x=-1"};
        for (String r : right) {
            Talk talk = new Talk();
            puts(talk, "a", r);
            talk.says("target f=join(a)", "ok");
            makes(talk, "compile(:f)", "");
            talk.says("face t", "");
        }
        for (String w : wrong) {
            Talk talk = new Talk();
            puts(talk, "a", w, "b", "q=1");
            talk.says("target f=join(a)", "ok");
            fails(talk, "compile(b,:f)", "bad 1 " + (w.equals("x=1||") ? 1 : 0));
        }

        Talk.sentence("The output: for each line of the sources its name, =, its value, 10; the face: those with pub.");
        Talk talk = new Talk();
        puts(talk, "a", "x=1|pub y=2||z=y|pub pub=z*x");
        makes(talk, "compile(a)", "x=1|y=2|z=2|pub=2|");
        talk.says("face t", "y=2|pub=2|");
        puts(talk, "a", "x=1");
        makes(talk, "compile(a)", "x=1|");
        talk.says("face t", "");
        // Of no lines at all.
        puts(talk, "a", "||");
        makes(talk, "compile(a,a)", "");
        talk.says("face t", "");
    }

    private static void values() {
        Talk.sentence("+ and * modulo 10,000.");
        Talk talk = new Talk();
        puts(talk, "a", "a=9999+1|b=9999+2|c=5000*2|d=9999*9999|e=100*100|f=9999+9999+9999|g=9999*9999*9999+9999");
        makes(talk, "compile(a)", "a=0|b=1|c=0|d=1|e=0|f=9997|g=9998|");
        puts(talk, "a", "a=3333*3|b=3333*3+1|c=a+b+9999*1|d=c*c|e=9999*9999+9999*9999|f=99*99*99*99*99*99*99*99*99*99");
        // 99 to the tenth is 90438207500880449001.
        makes(talk, "compile(a)", "a=9999|b=0|c=9998|d=4|e=2|f=9001|");

        Talk.sentence("A name's VALUE: that of an earlier line of the sources (all files in order), else that of the latest face line ahead that has it (inputs in order)");
        talk = new Talk();
        puts(talk, "f", "x=7|x=8", "g", "x=9|y=1", "s", "s=x", "r", "r=x", "own", "x=5", "y", "y=x|z=y");
        talk.says("target f=join(f)", "ok").says("target g=join(g)", "ok");
        makes(talk, "compile(:f,s)", "s=8|");
        makes(talk, "compile(:f,:g,s)", "s=9|");
        makes(talk, "compile(:g,:f,s)", "s=8|");
        makes(talk, "compile(:f,s,:g,r)", "s=8|r=9|");
        makes(talk, "compile(own,:f,s)", "x=5|s=5|");
        makes(talk, "compile(:f,s,own,:g,r)", "s=8|x=5|r=5|");
        makes(talk, "compile(:g,own,y)", "x=5|y=5|z=5|");
        makes(talk, "compile(:g,y)", "y=9|z=9|");
        // What stands behind is not ahead: neither a face nor a source.
        fails(talk, "compile(s,:f)", "bad 0 0");
        fails(talk, "compile(s,own)", "bad 0 0");
        fails(talk, "compile(:f,y,s,own,y)", "bad 4 0");
        puts(talk, "s", "s=q|q=1");
        fails(talk, "compile(:f,s)", "bad 1 0");
    }

    private static void badLines() {
        Talk.sentence("The action FAILS at the first line, inputs in order, that is not so, has a name without value, or (of a source) the name of an earlier source line: \"bad I L\" (ahead of too large), the input's and the line's number, from 0.");
        Talk talk = new Talk();
        puts(talk, "a", "a=1|b=2||c=3|", "b", "||d=4|d=5", "c", "e=1|f=", "e", "", "f", "x=1|y=2|z", "g", "a=1");
        talk.says("target f=join(f)", "ok");
        fails(talk, "compile(b)", "bad 0 3");
        fails(talk, "compile(a,b)", "bad 1 3");
        fails(talk, "compile(e,a,e,e,e,b)", "bad 5 3");
        fails(talk, "compile(c,b)", "bad 0 1");
        fails(talk, "compile(b,c)", "bad 0 3");
        fails(talk, "compile(:f,b)", "bad 0 2");
        fails(talk, "compile(a,:f,b)", "bad 1 2");
        fails(talk, "compile(c,:f)", "bad 0 1");
        // The name of an earlier source line, of another file, too; not of a face's.
        fails(talk, "compile(a,g)", "bad 1 0");
        fails(talk, "compile(g,a)", "bad 1 0");
        fails(talk, "compile(g,g)", "bad 1 0");
        talk.says("target g=join(g)", "ok");
        makes(talk, "compile(:g,g)", "a=1|");
        makes(talk, "compile(:g,:g,g,:g)", "a=1|");
        fails(talk, "compile(:g,g,:g,g)", "bad 3 0");
        // The last of 160 lines.
        puts(talk, "a", "|".repeat(159) + "x");
        fails(talk, "compile(a)", "bad 0 159");
    }

    private static void largeCompiles() {
        Talk.sentence("An output above 600 bytes: too large.");
        // 7 bytes of z, 73 lines of 8, and one of 9: 600.
        StringBuilder[] source = {new StringBuilder("z=9999|"), new StringBuilder(), new StringBuilder()};
        StringBuilder made = new StringBuilder("z=9999|");
        for (int i = 0; i < 73; i++) {
            String name = "" + (char) ('a' + i / 26) + (char) ('a' + i % 26);
            source[i / 25].append(name).append("=z|");
            made.append(name).append("=9999|");
        }
        Talk talk = new Talk();
        puts(talk, "a", source[0].toString(), "b", source[1].toString(), "c", source[2].toString(), "d", "abc=z", "e",
            "pub abcd=z", "f", "x", "g", "aa=1");
        makes(talk, "compile(a,b,c,d)", made + "abc=9999|");
        talk.says("face t", "");
        fails(talk, "compile(a,b,c,e)", "too large");
        fails(talk, "compile(a,b,c,d,e)", "too large");
        // Ahead of it: a line that is not right, wherever it stands.
        fails(talk, "compile(a,b,c,e,f)", "bad 4 0");
        fails(talk, "compile(a,b,c,d,e,g)", "bad 5 0");
        // A face of 600 bytes, 150 lines, six times.
        Talk faces = new Talk();
        puts(faces, "a", "x=1|".repeat(40), "b", "x=2|".repeat(30), "c", "y=x");
        faces.says("target f=join(a,a,a,b)", "ok");
        makes(faces, "compile(:f,:f,:f,:f,:f,c)", "y=2|");
        fails(faces, "compile(:f,:f,:f,:f,c,c)", "bad 5 0");
        makes(faces, "compile(:f,:f,:f,:f,:f,:f)", "");
    }

    private static void digest() {
        Talk.sentence("THE DIGEST of bytes: h is -3750763034362895579; for each byte h is (h xor byte) times 1099511628211 (as 64 bits go round); told by 16 signs, 0 to 9, a to f, the highest first.");
        // Worked out with whole numbers without bound, and the remainder by 2 to the 64th.
        String[][] made = {{"", "cbf29ce484222325"}, {"a", "af63dc4c8601ec8c"}, {"|", "af63c74c8601c8dd"}, {"a|b", "e5beb1190415e670"},
            {"~".repeat(160), "78f99f7c931c75a5"}};
        for (String[] m : made) {
            Talk talk = new Talk();
            puts(talk, "a", m[0]);
            makes(talk, "digest(a)", m[1] + "|");
        }
        BigInteger h = new BigInteger("-3750763034362895579").mod(BigInteger.TWO.pow(64));
        String text = "";
        boolean zeros = false;
        for (int i = 0; i < 160; i++) {
            char sign = (char) ('a' + i * 7 % 26);
            text += sign;
            h = h.xor(BigInteger.valueOf(sign)).multiply(BigInteger.valueOf(1099511628211L)).mod(BigInteger.TWO.pow(64));
            String due = "0".repeat(16 - h.toString(16).length()) + h.toString(16);
            zeros |= due.startsWith("0");
            Talk talk = new Talk();
            puts(talk, "a", text);
            makes(talk, "digest(a)", due + "|");
        }
        Talk.due("one of these digests begins with 0", zeros, true);
    }
}
