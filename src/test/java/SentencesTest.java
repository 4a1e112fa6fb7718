import java.lang.reflect.Modifier;
import java.util.Arrays;
import java.util.TreeSet;

/**
 * The sentences that name no boundary case, in the document's order, where no other test quotes them: with these and
 * the Edges tests each sentence of the document has a test that quotes it.
 */
public final class SentencesTest {
    public static void main(String[] args) {
        face();
        calls();
        toldForms();
        askedForms();
        targets();
        ruleInputs();
        faces();
        keys();
        workers();
        reasons();
        solutions();
        trees();
        answers();
        firstRefusal();
        oks();
        numberOfBefore();
        Talk.end();
    }

    private static void face() {
        Talk.sentence("public final class BuildHouse {\n    public BuildHouse();\n    public int feed(int a, int b, int c, int d, int e);\n    public int ask(int n);\n    public int answer(int i);\n    public int disproveAnswer();\n    public int state(int what);\n    public int byteAt(int i);\n    public boolean poke(int i, int mask);\n}");
        Talk.due("the class", Modifier.toString(BuildHouse.class.getModifiers()), "public final");
        TreeSet<String> open = new TreeSet<>();
        Arrays.stream(BuildHouse.class.getDeclaredConstructors()).filter(c -> !Modifier.isPrivate(c.getModifiers()))
            .forEach(c -> open.add(c.toString()));
        Arrays.stream(BuildHouse.class.getDeclaredMethods()).filter(m -> !Modifier.isPrivate(m.getModifiers()))
            .forEach(m -> open.add(m.toString()));
        Arrays.stream(BuildHouse.class.getDeclaredFields()).filter(f -> !Modifier.isPrivate(f.getModifiers()))
            .forEach(f -> open.add(f.toString()));
        Talk.due("what is open", open.toString(), "[public BuildHouse(), public boolean BuildHouse.poke(int,int), "
            + "public int BuildHouse.answer(int), public int BuildHouse.ask(int), public int BuildHouse.byteAt(int), "
            + "public int BuildHouse.disproveAnswer(), public int BuildHouse.feed(int,int,int,int,int), "
            + "public int BuildHouse.state(int)]");
    }

    private static void calls() {
        Talk.sentence("An object is used for at most 512 calls after it has been made; what later calls answer is free.");
        // The 512th call answers as the first one does: each round has a feed, an ask and two bytes of an answer.
        BuildHouse house = new BuildHouse();
        for (int round = 0; round < 128; round++) {
            Talk.due("feed", house.feed(0x6b657074, 0, 0, 0, 0), 20);
            Talk.due("ask", house.ask(4), 1);
            Talk.due("answer(0)", house.answer(0), (int) '0');
            Talk.due("answer(1)", house.answer(1), -1);
        }
    }

    /** Each request is right as it stands, and with no sign less or more. */
    private static void exactly(String... requests) {
        for (String request : requests) {
            Talk talk = new Talk();
            Talk.due(request + " is right", talk.tell(request).startsWith("bad"), false);
            int less = request.length() - 1;
            talk.says(request.substring(0, less), "bad " + less);
            talk.says(request + "~", "bad " + (less + 1));
            talk.says(" " + request, "bad 0");
        }
    }

    private static void toldForms() {
        Talk.sentence("request: told | asked.  told: \"house\" | \"put\" [ ] path [ ] text | \"gone\" [ ] path | \"flag\" [ ] name [ ] n | \"target\" [ ] name \"=\" rule \"(\" input (\",\" input)* \")\" (\"?\" name \"=\" n)? | \"drop\" [ ] name | \"build\" [ ] name | \"go\" [ ] n | \"stop\" | \"release\" [ ] name | \"wish\" [ ] n [ ] n [ ] n | \"need\" [ ] n [ ] n [ ] n [ ] n [ ] n | \"unwish\"");
        exactly("house", "put a <>", "gone a", "flag a 0", "target a=b(c)", "target a=b.c(d,:e,f)", "target a=b(c)?d=0",
            "drop a", "build a", "go 0", "stop", "release a", "wish 0 0 0", "need 0 0 0 0 0", "unwish");
        // What is told and done stands in the book; nothing that is asked does.
        Talk talk = new Talk();
        int used = 0;
        for (String told : new String[] {"put a <>", "flag a 0", "target a=join(a)", "build a", "go 0", "stop", "build a",
            "go 2", "release a", "wish 0 1 1", "need 0 1 0 1 1", "unwish", "drop a", "gone a"}) {
            talk.tell(told);
            used += told.length() + 2;
            talk.state(8, used);
        }
        talk.says("house", "ok").state(8, 7);
    }

    private static void askedForms() {
        Talk.sentence("asked: \"files\" | \"show\" [ ] path | \"targets\" | \"output\" [ ] name | \"face\" [ ] name | \"why\" [ ] name | \"runs\" | \"work\" | \"anew\" [ ] name | \"needs\" [ ] name | \"users\" [ ] path | \"way\" [ ] name [ ] name | \"longest\" [ ] name | \"kept\" | \"edition\" [ ] name | \"rules\" | \"solve\" | \"meets\" ([ ] version)+ | \"refute\" | \"disprove\" [ ] tree | \"cut\" [ ] n | \"mend\"");
        exactly("files", "show a", "targets", "output a", "face a", "why a", "runs", "work", "anew a", "needs a", "users a",
            "way a b", "longest a", "kept", "edition a", "rules", "solve", "meets 1", "meets - 2", "refute", "disprove !00",
            "disprove ?0!00!00!00!00", "cut 0", "mend");
        Talk talk = new Talk();
        for (String asked : new String[] {"files", "show a", "targets", "output a", "face a", "why a", "runs", "work",
            "anew a", "needs a", "users a", "way a b", "longest a", "kept", "edition a", "rules", "solve", "meets 1",
            "refute", "disprove !00", "cut 0", "mend"}) {
            talk.tell(asked);
            talk.state(8, 0);
        }
    }

    private static void targets() {
        Talk.sentence("have a name, a RULE, a WORD,");
        Talk.sentence("and perhaps a CONDITION: a flag that must have a number.");
        Talk.of("""
            put a <x|ox|o> => ok
            target t=grep.x(a) => ok
            target u=grep.o(a)?o=3 => ok
            build t => ok
            go 9 => built
            output t => x|ox|
            build u => ok
            go 9 => failed u: absent
            flag o 3 => ok
            build u => ok
            go 9 => built
            output u => ox|o|
            flag o 4 => ok
            build u => ok
            go 9 => failed u: absent""");
    }

    private static void ruleInputs() {
        Talk.sentence("RULES make an OUTPUT of the bytes of the inputs, in order (of a file its bytes; of a target its output):");
        Talk.of("""
            put a <a> => ok
            put b <pub x=1|y=2|> => ok
            target c=compile(b) => ok
            target t=join(b,:c,a,:c,a) => ok
            target u=upper(a,:t,b) => ok
            build u => ok
            go 99 => built
            output t => pub x=1|y=2|x=1|y=2|ax=1|y=2|a
            output u => APUB X=1|Y=2|X=1|Y=2|AX=1|Y=2|APUB X=1|Y=2|""");
    }

    private static void faces() {
        Talk.sentence("compile: of the files its SOURCES, of the targets their FACES. The FACE of a target of compile is told below, of all others it is the output.");
        Talk.of("""
            put a <pub x=1|y=2|> => ok
            put b <q=x> => ok
            put c <q=y> => ok
            target t=compile(a) => ok
            target j=join(:t) => ok
            target u=compile(:t,b) => ok
            target v=compile(:t,c) => ok
            target w=compile(:j,c) => ok
            build u => ok
            go 99 => built
            output u => q=1|
            face t => x=1|
            build v => ok
            go 99 => failed v: bad 1 0
            build w => ok
            go 99 => built
            output w => q=2|
            face j => x=1|y=2|""");
    }

    private static void keys() {
        Talk.sentence("ITS KEY: the digest of its parts, in order, each as eight bytes, the highest first.");
        // The same parts in another order are another key; the same ones of another target are the same key.
        Talk.of("""
            put a <a> => ok
            put b <b> => ok
            target t=join(a,b) => ok
            target u=join(b,a) => ok
            target v=join(a,b) => ok
            target w=join(:t,:u,:v) => ok
            build w => ok
            go 99 => built
            runs => t;u;w;
            kept => 3
            work => 3 1 0""");
    }

    private static void workers() {
        Talk.sentence("STEPS: each of two workers, 0 first: when it has none,");
        Talk talk = Talk.of("""
            put a <0123456789> => ok
            target z=join(:y,:x) => ok
            target y=join(a) => ok
            target x=sort(a) => ok
            build z => ok""");
        // Of three steps each: the lowest one is worker 0's.
        talk.state(11, -1).state(12, -1).says("go 1", "on").state(11, 1).state(12, 2).state(4, 1);
        talk.says("go 2", "on").state(11, -1).state(12, -1).state(6, 2);
        // One has work, the other has none.
        talk.says("go 1", "on").state(11, 0).state(12, -1).says("go 9", "built").state(4, 8).says("runs", "y;x;z;");
    }

    private static void reasons() {
        Talk.sentence("WHY of an action that is worked");
        Talk.of("""
            put a <a> => ok
            put b <b> => ok
            target t=join(a) => ok
            why t => never
            build t => ok
            go 9 => built
            why t => new
            put a <c> => ok
            build t => ok
            go 9 => built
            why t => input 0
            target t=upper(a) => ok
            build t => ok
            go 9 => built
            why t => rule
            target t=upper(a,b) => ok
            build t => ok
            go 9 => built
            why t => inputs
            build t => ok
            go 9 => built
            work => 4 1 0
            why t => inputs""");
    }

    private static void solutions() {
        Talk.sentence(": a wish: part Q is there, its version L to H; a need: when part P has version V, so is Q. A SOLUTION gives each part a version, or none, so that all hold.");
        // All that five parts can have, judged by meets; the solution by hand: parts 0, 1 and 3 must be there.
        Talk talk = new Talk();
        talk.says("wish 3 1 2", "rule 0").says("need 3 2 1 2 3", "rule 1").says("need 3 1 1 1 1", "rule 2");
        talk.says("need 1 1 4 3 3", "rule 3").says("need 1 3 0 1 2", "rule 4").says("need 1 2 0 3 3", "rule 5");
        int all = 0;
        for (int code = 0; code < 1024; code++) {
            int[] part = new int[5];
            StringBuilder meets = new StringBuilder("meets");
            for (int p = 0; p < 5; p++) {
                part[p] = code >> 2 * p & 3;
                meets.append(' ').append("-123".charAt(part[p]));
            }
            boolean right = (part[3] == 1 || part[3] == 2) && (part[3] != 2 || part[1] >= 2) && (part[3] != 1 || part[1] == 1)
                && (part[1] != 1 || part[4] == 3) && (part[1] != 3 || part[0] == 1 || part[0] == 2)
                && (part[1] != 2 || part[0] == 3);
            Talk.due(meets.toString(), talk.tell(meets.toString()).equals("meets"), right);
            all += right ? 1 : 0;
        }
        Talk.due("how many solutions", all, 4 * 4 + 2 * 4 * 4 + 4 * 4);
        talk.says("solve", "3 2 - 2 -");
    }

    private static void trees() {
        Talk.sentence("A TREE: ?P and four trees, for P none, 1, 2, 3; or !KK, rule KK (two digits)");
        Talk.sentence("is BROKEN on the way to there:");
        Talk.of("""
            wish 0 1 2 => rule 0
            need 0 1 1 3 3 => rule 1
            need 0 2 1 3 3 => rule 2
            need 1 3 0 3 3 => rule 3
            refute => ?0!00?1!01!01!01!03?1!02!02!02!03!00
            disprove ?0!00?1!01!01!01!03?1!02!02!02!03!00 => refuted
            disprove ?1?0!00!01!02!00?0!00!01!02!00?0!00!01!02!00?0!00!03!03!00 => refuted
            disprove ?1?0!00!01!02!00?0!00!01!02!00?0!00!01!02!00?0!00!01!03!00 => open 13
            disprove ?0!00?1!01!01!01!03?1!02!02!02!03!01 => open 9
            disprove ?0!00?1!01!01!03!03?1!02!02!02!03!00 => open 3""");
    }

    private static void answers() {
        Talk.sentence("ANSWERS are texts, numbers as the grammar's without bound; bytes that are told have | for 10.");
        Talk.of("""
            put a <a||b|> => ok
            show a => a||b|
            target t=join(a) => ok
            build t => ok
            go 9 => built
            output t => a||b|
            face t => a||b|
            work => 1 0 0""");
        Talk talk = new Talk();
        talk.says("disprove " + "?0!00!00!00".repeat(350), "bad " + (9 + 11 * 350));
    }

    private static void firstRefusal() {
        Talk.sentence("Others (when several things are refused the one told first;");
        Talk.of("""
            build t => no target
            target t=join(a) => ok
            build t => ok
            build t => busy
            build u => no target
            target t=nope.w(:t) => no rule
            target t=join.w(:t) => no word
            target t=join(:t) => circle
            wish 5 0 9 => no part
            need 5 9 5 3 1 => no part
            need 0 9 5 3 1 => no part
            need 0 9 4 3 1 => no version""");
        Talk talk = new Talk();
        for (char name = 'a'; name < 'o'; name++) {
            talk.says("target " + name + "=join(a)", "ok");
        }
        talk.says("target z=nope(:z)", "no rule").says("target z=grep(:z)", "no word").says("target z=join(:z)", "no room");
        talk.says("target n=join(:n)", "circle");
    }

    private static void oks() {
        Talk.sentence("where nothing else is told a request that is done answers \"ok\":");
        Talk.of("""
            house => ok
            put a <> => ok
            flag f 1 => ok
            target t=join(a) => ok
            build t => ok
            stop => ok
            wish 0 1 1 => rule 0
            unwish => ok
            drop t => ok
            gone a => ok
            cut 8 => ok""");
        Talk.sentence(". wish Q L H, need P V Q L H:");
        Talk.of("""
            wish 1 2 3 => rule 0
            need 1 2 3 1 2 => rule 1
            rules => w1 2 3;n1 2 3 1 2;""");
    }

    private static void numberOfBefore() {
        Talk.sentence("(anew, with the number of before, when its name was told already).");
        Talk talk = Talk.of("""
            target b=join(x) => ok
            target a=join(y)?f=1 => ok
            target c=join(z) => ok
            target b=count(:c,x)?f=2 => ok
            targets => b=count(:c,x)?f=2;a=join(y)?f=1;c=join(z);
            drop a => ok
            targets => b=count(:c,x)?f=2;c=join(z);
            target d=join(x) => ok
            target a=upper(:d) => ok
            targets => b=count(:c,x)?f=2;a=upper(:d);c=join(z);d=join(x);
            build a => ok
            go 1 => failed d: no file x""");
        talk.says("put x <x>", "ok").says("build a", "ok").says("go 1", "on").state(11, 3).state(12, -1);
        // With the third step d is done, and worker 1 takes a.
        talk.says("go 2", "on").state(11, -1).state(12, 1);
    }
}
