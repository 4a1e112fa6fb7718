/** Promise 3: what the rules make of bytes. */
public final class RulesTest {
    public static void main(String[] args) {
        lines();
        digests();
        large();
        compile();
        badLines();
        Talk.end();
    }

    /** A talk with files a to c, each rule's output asked for. */
    private static void rule(Talk talk, String rule, String inputs, String due) {
        talk.says("target t=" + rule + "(" + inputs + ")", "ok").says("build t", "ok");
        talk.tell("go 9999");
        talk.says("output t", due);
    }

    private static void lines() {
        Talk talk = Talk.of("""
            put a <b|a|> => ok
            put b <bb> => ok
            put c <|b||B|> => ok
            put e <> => ok
            put n <|> => ok""".stripIndent());
        rule(talk, "join", "a,b,c", "b|a|bb|b||B|");
        rule(talk, "join", "b,a", "bbb|a|");
        rule(talk, "join", "a,a", "b|a|b|a|");
        rule(talk, "join", "e", "");
        // Of all lines of all inputs: b's last line is one of its own, where join has none.
        rule(talk, "sort", "b,a", "a|b|bb|");
        rule(talk, "sort", "b,c", "||B|b|bb|");
        rule(talk, "sort", "e,e", "");
        rule(talk, "sort", "n,e,b", "|bb|");
        rule(talk, "uniq", "b,a", "bbb|a|");
        rule(talk, "uniq", "a,a,a", "b|a|b|a|b|a|");
        rule(talk, "uniq", "n,n,b,n,b,n", "|bb|");
        rule(talk, "uniq", "c", "|b||B|");
        rule(talk, "uniq", "e", "");
        rule(talk, "uniq", "b", "bb|");
        rule(talk, "upper", "a,b,c", "B|A|BB|B||B|");
        rule(talk, "count", "a,b,c", "6|");
        rule(talk, "count", "b,a", "2|");
        rule(talk, "count", "e", "0|");
        rule(talk, "count", "n,n", "2|");
        rule(talk, "grep.b", "a,b,c", "b|bb|b|");
        rule(talk, "grep.bb", "a,b,c", "bb|");
        rule(talk, "grep.bbb", "b,a", "bbb|");
        rule(talk, "grep.z", "a", "");
        talk.says("put a <a_1x23|xa_1x2|a_1x|~a_1x2~>", "ok");
        rule(talk, "grep.a_1x2", "a", "a_1x23|xa_1x2|~a_1x2~|");
        talk.says("put a <az{`@AZ[09_>", "ok");
        rule(talk, "upper", "a", "AZ{`@AZ[09_");
    }

    private static void digests() {
        Talk talk = Talk.of("""
            put a <> => ok
            put b <a> => ok
            put c <foobar> => ok
            put d <foo> => ok
            put e <bar> => ok""".stripIndent());
        // FNV-1a's own examples of 64 bits.
        rule(talk, "digest", "a", "cbf29ce484222325|");
        rule(talk, "digest", "b", "af63dc4c8601ec8c|");
        rule(talk, "digest", "c", "85944171f73967e8|");
        rule(talk, "digest", "d,a,e", "85944171f73967e8|");
        talk.says("face t", "85944171f73967e8|");
        talk.says("put a <|>", "ok").says("put b <a|b|>", "ok");
        rule(talk, "digest", "a", "af63c74c8601c8dd|");
        rule(talk, "digest", "b", "78ed6781f136a14e|");
    }

    private static void large() {
        Talk talk = new Talk();
        talk.says("put a <" + "x".repeat(150) + ">", "ok").says("put b <>", "ok");
        rule(talk, "join", "a,a,a,a,b", "x".repeat(600));
        talk.says("put b <y>", "ok").says("build t", "ok").says("go 999", "failed t: too large");
        // What was put stays.
        talk.says("output t", "x".repeat(600));
        talk.says("target t=upper(a,a,a,a,b)", "ok").says("build t", "ok").says("go 999", "failed t: too large");
        talk.says("target t=uniq(a,a,a,a)", "ok").says("build t", "ok").says("go 999", "failed t: too large");
        talk.says("target t=grep.x(a,a,a,a)", "ok").says("build t", "ok").says("go 999", "failed t: too large");
        talk.says("target t=sort(a,a,a,a)", "ok").says("build t", "ok").says("go 999", "failed t: too large");
        rule(talk, "count", "a,a,a,a,a,a", "1|");
        rule(talk, "grep.y", "a,a,a,a,a,a", "");
        // 600 lines of nothing.
        talk.says("put b <" + "|".repeat(150) + ">", "ok");
        rule(talk, "sort", "b,b,b,b", "|".repeat(600));
        rule(talk, "uniq", "b,b,b,b,b,b", "|");
        // An output of 600 as an input, six times.
        talk.says("target u=count(:t,:t,:t,:t,:t,:t)", "ok");
        rule(talk, "join", "b,b,b,b", "|".repeat(600));
        talk.says("build u", "ok").says("go 999", "built").says("output u", "3600|");
    }

    private static void compile() {
        Talk talk = Talk.of("""
            put a <pub x=5|y=x*x+2||pub z=y> => ok
            put b <|pub b=x+y|c=2+3*4+b*0|> => ok
            put m <pub m=9999*9999+9999|n=9999+9999|> => ok
            put p <pub=1|pub pub1=pub|> => ok
            put f <x=7|x=8|q=9|> => ok
            put s <s=x> => ok
            put r <r=x+s|x=x+1|pub t=x> => ok
            put e <> => ok""".stripIndent());
        rule(talk, "compile", "a", "x=5|y=27|z=27|");
        talk.says("face t", "x=5|z=27|");
        rule(talk, "compile", "a,b", "x=5|y=27|z=27|b=32|c=14|");
        talk.says("face t", "x=5|z=27|b=32|");
        // 9999 * 9999 is 9998 0001, of this 1; 1 + 9999 is 0 again.
        rule(talk, "compile", "m", "m=0|n=9998|");
        rule(talk, "compile", "p", "pub=1|pub1=1|");
        talk.says("face t", "pub1=1|");
        rule(talk, "compile", "e", "");
        talk.says("face t", "");

        // A target's face, of another rule its output: the latest line ahead counts, but a source's line more.
        talk.says("target f=join(f)", "ok");
        rule(talk, "compile", ":f,s", "s=8|");
        talk.says("target g=compile(a)", "ok");
        rule(talk, "compile", ":f,:g,s", "s=5|");
        rule(talk, "compile", ":g,:f,s", "s=8|");
        rule(talk, "compile", ":g,s,:f,r", "s=5|r=13|x=9|t=9|");
        talk.says("face t", "t=9|");
        // A compile's output is what others see.
        talk.says("target u=join(:g)", "ok");
        talk.says("build u", "ok").says("go 99", "built").says("output u", "x=5|y=27|z=27|").says("face u",
            "x=5|y=27|z=27|");
        // Its y is not in its face.
        talk.says("put s <s=y>", "ok").says("target t=compile(:g,s)", "ok").says("build t", "ok");
        talk.says("go 99", "failed t: bad 1 0");
    }

    private static void badLines() {
        String[][] bad = {{"x", "0 0"}, {"x=", "0 0"}, {"=1", "0 0"}, {"x=1|y=z", "0 1"}, {"x=1|x=2", "0 1"},
            {"x=x", "0 0"}, {"x=05", "0 0"}, {"x=10000", "0 0"}, {"x=1+", "0 0"}, {"x=1*", "0 0"}, {"x=1**2", "0 0"},
            {"x=+1", "0 0"}, {"x=1 ", "0 0"}, {" x=1", "0 0"}, {"pub  x=1", "0 0"}, {"pub ", "0 0"}, {"pub", "0 0"},
            {"X=1", "0 0"}, {"x=1||a23456789=1", "0 2"}, {"a2345678=1|y=a23456789", "0 1"}, {"x=1=1", "0 0"},
            {"x==1", "0 0"}, {"x=1-1", "0 0"}, {"x=1| |", "0 1"}, {"pubx =1", "0 0"}, {"x=(1)", "0 0"},
            {"x=1+y|y=1", "0 0"}};
        for (String[] b : bad) {
            Talk talk = new Talk();
            talk.says("put a <" + b[0] + ">", "ok").says("target t=compile(a)", "ok").says("build t", "ok");
            talk.says("go 99", "failed t: bad " + b[1]);
        }
        String[][] badFaces = {{"x=1+1", "0 0"}, {"x=1||", "0 1"}, {"pub x=1", "0 0"}, {"x=y", "0 0"}, {"x=01", "0 0"},
            {"x=1|y=10000", "0 1"}, {"a23456789=1", "0 0"}, {"x", "0 0"}, {"x=", "0 0"}, {"x=1 ", "0 0"},
            {"=5", "0 0"}, {"x+5", "0 0"}, {"x5", "0 0"}};
        for (String[] b : badFaces) {
            Talk talk = new Talk();
            talk.says("put a <" + b[0] + ">", "ok").says("target f=join(a)", "ok");
            talk.says("target t=compile(:f)", "ok").says("build t", "ok").says("go 99", "failed t: bad " + b[1]);
        }
        // No value of an action of before.
        Talk.of("""
            put a <x=1|> => ok
            put b <y=x|> => ok
            target f=join(a) => ok
            target t=compile(:f,b) => ok
            build t => ok
            go 99 => built
            target t=compile(b) => ok
            build t => ok
            go 99 => failed t: bad 0 0
            target t=compile(a,b) => ok
            build t => ok
            go 99 => built
            target t=compile(b,b) => ok
            build t => ok
            go 99 => failed t: bad 0 0""".stripIndent());
        // The first of them, inputs in order; a face behind a source is not ahead of it.
        Talk.of("""
            put a <x=1|> => ok
            put b <y=x|> => ok
            put c <y=|> => ok
            target f=join(a) => ok
            target t=compile(b,:f) => ok
            build t => ok
            go 99 => failed t: bad 0 0
            target t=compile(:f,b,b) => ok
            build t => ok
            go 99 => failed t: bad 2 0
            target t=compile(:f,b,a,c) => ok
            build t => ok
            go 99 => failed t: bad 3 0
            target t=compile(:f,:f,a,b) => ok
            build t => ok
            go 99 => built
            output t => x=1|y=1|""".stripIndent());

        // Bad is ahead of too large.
        Talk talk = new Talk();
        StringBuilder source = new StringBuilder("a=9999|");
        for (char c = 'b'; c <= 'z'; c++) {
            source.append(c).append("=a|");
        }
        talk.says("put a <" + source + ">", "ok");
        for (String name : new String[] {"b", "c", "d", "e", "f"}) {
            talk.says("put " + name + " <" + source.substring(7).replace("=", name + "=") + ">", "ok");
        }
        // 26 lines of 7 bytes, then 25 of 8 bytes: 182 + 200 + 200 is 582.
        talk.says("target t=compile(a,b,c)", "ok").says("build t", "ok").says("go 999", "built");
        talk.says("target t=compile(a,b,c,d)", "ok").says("build t", "ok").says("go 999", "failed t: too large");
        talk.says("target t=compile(a,b,c,d,b)", "ok").says("build t", "ok").says("go 999", "failed t: bad 4 0");
    }
}
