/** Promise 3: files, flags, and the targets that are told. */
public final class FilesTest {
    public static void main(String[] args) {
        files();
        flags();
        targets();
        manyFiles();
        manyTargets();
        Talk.end();
    }

    private static void files() {
        Talk.of("""
            put b <one|two|> => ok
            put a.b <> => ok
            put a <x> => ok
            put a0 <||> => ok
            put a_ <~> => ok
            put a/ <abc> => ok
            put ab <1234567890> => ok
            files => a 1;a.b 0;a/ 3;a0 2;a_ 1;ab 10;b 8;
            show b => one|two|
            show a.b =>
            show a0 => ||
            show c => no file
            put a <longer|> => ok
            show a => longer|
            files => a 7;a.b 0;a/ 3;a0 2;a_ 1;ab 10;b 8;
            gone a.b => ok
            gone a.b => no file
            show a.b => no file
            files => a 7;a/ 3;a0 2;a_ 1;ab 10;b 8;
            show ab => 1234567890
            put abcdefgh <8> => ok
            put abcdefghi <9> => ok
            put abcdefgh_ <10> => ok
            put abcdefg <7> => ok
            files => a 7;a/ 3;a0 2;a_ 1;ab 10;abcdefg 1;abcdefgh 1;abcdefgh_ 2;abcdefghi 1;b 8;
            show abcdefgh => 8
            show abcdefghi => 9
            gone abcdefgh_ => ok
            show abcdefghi => 9
            show abcdefgh_ => no file
            files => a 7;a/ 3;a0 2;a_ 1;ab 10;abcdefg 1;abcdefgh 1;abcdefghi 1;b 8;""".stripIndent());
    }

    private static void flags() {
        Talk talk = Talk.of("""
            flag a 1 => ok
            flag b 0 => ok
            flag c 1 => ok
            flag d 1 => ok
            flag e 1 => ok
            flag f 9999 => ok
            flag g 1 => no room
            flag a 7 => ok
            flag b 2 => ok
            target t=join(x)?g=0 => ok
            target u=join(x)?a=7 => ok
            target v=join(x)?a=1 => ok
            put x <x> => ok
            anew t => unlike t
            anew u => unlike u
            anew v => failed v: absent""".stripIndent());
        // A house has none.
        Talk.of("""
            flag a 1 => ok
            flag b 1 => ok
            house => ok
            put x <x> => ok
            target u=join(x)?a=1 => ok
            anew u => failed u: absent
            flag c 1 => ok
            flag d 1 => ok
            flag e 1 => ok
            flag f 1 => ok
            flag g 1 => ok
            flag a 1 => ok
            flag b 1 => no room
            anew u => unlike u""".stripIndent());
        // Records: seven flags of 8 bytes, one of 11, three targets of 20, a put of 9, each with 2 more.
        talk.state(8, 7 * 10 + 13 + 3 * 22 + 11);
    }

    private static void targets() {
        Talk talk = Talk.of("""
            target b=grep.o_1(a,:x,:b2,c/d)?f=12 => ok
            target a=join(b) => ok
            targets => b=grep.o_1(a,:x,:b2,c/d)?f=12;a=join(b);
            target c=joint(a) => no rule
            target c=joi(a) => no rule
            target c=grep(a) => no word
            target c=compile.x(a) => no word
            target c=nope.x(a) => no rule
            target c=join(:c) => circle
            target c=nope(:c) => no rule
            target c=grep(:c) => no word
            target b=sort(a) => ok
            targets => b=sort(a);a=join(b);
            drop b => ok
            targets => a=join(b);
            drop b => no target
            build b => no target
            needs b => no target
            way a b => no target
            longest b => no target
            anew b => no target
            target c=upper(x) => ok
            target b=join(y) => ok
            targets => b=join(y);a=join(b);c=upper(x);""".stripIndent());
        talk.state(1, 3);

        // A circle, also by names that were not there when they were named; what was dropped closes none.
        Talk.of("""
            target a=join(:b,f) => ok
            target b=join(:c) => ok
            target c=join(:a) => circle
            target c=join(f,:d) => ok
            target d=join(:b) => circle
            target d=join(:d) => circle
            drop b => ok
            target c=join(:a) => ok
            target b=join(:c) => circle
            target b=join(:d) => ok
            targets => a=join(:b,f);b=join(:d);c=join(:a);
            target d=join(:c) => circle
            target a=join(f) => ok
            target d=join(:c) => ok
            target a=join(:b) => circle""".stripIndent());
    }

    private static void manyFiles() {
        Talk talk = new Talk();
        for (int i = 0; i < 16; i++) {
            talk.says("put f" + i + " <" + i + ">", "ok");
        }
        talk.state(0, 16).says("put f16 <x>", "no room").says("put f3 <x>", "ok").says("put f0 <0>", "ok").says("gone f16", "no file");
        talk.says("gone f3", "ok").says("put f16 <x>", "ok").says("put f3 <x>", "no room").state(0, 16);
        talk.says("files", "f0 1;f1 1;f10 2;f11 2;f12 2;f13 2;f14 2;f15 2;f16 1;f2 1;f4 1;f5 1;f6 1;f7 1;f8 1;f9 1;");
    }

    private static void manyTargets() {
        Talk talk = new Talk();
        for (int i = 0; i < 14; i++) {
            talk.says("target t" + i + "=join(a)", "ok");
        }
        // Names that were dropped have their room and their number; a full house is told ahead of a circle.
        talk.says("drop t5", "ok").says("target new=join(a)", "no room").says("target new=join(:new)", "no room");
        talk.says("target new=nope(a)", "no rule").state(1, 13);
        talk.says("target t5=sort(b)", "ok").says("target t5=join(:t5)", "circle").state(1, 14);
        talk.says("users b", "t5;").says("users c", "");
        // A house has none of them, and numbers them anew.
        talk.says("house", "ok").says("targets", "").says("users b", "").says("longest t0", "no target");
        talk.says("target t9=join(:t8,c)", "ok").says("target t8=join(b)", "ok").says("targets",
            "t9=join(:t8,c);t8=join(b);").says("users b", "t9;t8;").says("longest t9", "2 t9 t8");
    }
}
