/** Promise 1: a new object. */
public final class Promise1Test {
    public static void main(String[] args) {
        Talk talk = new Talk();
        for (int what = 0; what <= 10; what++) {
            talk.state(what, 0);
        }
        talk.state(11, -1).state(12, -1);
        Talk.due("answer(0)", talk.house.answer(0), -1);
        Talk.due("ask(1) of an empty tape", talk.house.ask(1), -1);
        for (int i = 0; i < 2048; i++) {
            Talk.due("byteAt(" + i + ")", talk.house.byteAt(i), 0);
        }
        talk.eachSays("", "files", "targets", "runs", "rules", "users a");
        talk.go("""
            work => 0 0 0
            kept => 0
            show a => no file
            output a => none
            face a => none
            why a => never
            edition a => none
            anew a => no target
            needs a => no target
            solve => - - - - -
            refute => solved
            meets 1 2 3 - - => meets
            go 1 => no session
            stop => no session
            unwish => no rule
            cut 0 => no cut
            mend => 0""".stripIndent());
        BuildHouse other = new BuildHouse();
        talk.says("put a <x>", "ok");
        Talk.due("another object's files", other.state(0), 0);
        Talk.end();
    }
}
