/** Promise 6: state. */
public final class Promise6Test {
    public static void main(String[] args) {
        Talk talk = Talk.of("""
            put a <12345678901>
            put b <x>
            """.stripIndent().replace("\n", " => ok\n").strip());
        states(talk, 2, 0, 0, 0, 0, 0, 0, 0);
        talk.state(8, 21 + 11).state(10, 2);
        talk.eachSays("ok", "target one=join(a)", "target two=upper(b)", "target top=join(:one,:two)",
            "target gone=join(a)", "drop gone", "build top");
        talk.says("wish 0 1 1", "rule 0");
        states(talk, 2, 3, 1, 1, 0, 3, 0, 0);
        workers(talk, -1, -1);

        // One's work: 2 and a tenth of 11, 4 steps; two's 3 steps; then top's with 12 bytes, 4 steps.
        talk.says("go 0", "on");
        states(talk, 2, 3, 1, 1, 0, 3, 0, 0);
        talk.says("go 1", "on");
        states(talk, 2, 3, 1, 1, 1, 3, 0, 0);
        workers(talk, 0, 1);
        talk.says("go 2", "on");
        states(talk, 2, 3, 1, 1, 3, 3, 1, 1);
        workers(talk, 0, -1);
        // One is done by worker 0; worker 1 sees that in the same step.
        talk.says("go 1", "on");
        states(talk, 2, 3, 1, 1, 4, 3, 2, 2);
        workers(talk, -1, 2);
        talk.says("go 2", "on");
        workers(talk, -1, 2);
        talk.says("go 9", "built");
        states(talk, 2, 3, 1, 0, 7, 3, 3, 3);
        workers(talk, -1, -1);

        // Stop: the workers have nothing, the rest is of the latest session.
        talk.eachSays("ok", "put a <xyz>", "build one");
        talk.says("go 1", "on");
        workers(talk, 0, -1);
        states(talk, 2, 3, 1, 1, 1, 1, 0, 3);
        talk.says("stop", "ok");
        workers(talk, -1, -1);
        states(talk, 2, 3, 1, 0, 1, 1, 0, 3);

        // The tape and the answer, and others.
        talk.feed("go");
        talk.state(9, 20);
        talk.house.ask(1);
        talk.state(9, 0).state(10, 5);
        for (int what : new int[] {-1, 13, 14, Integer.MIN_VALUE, Integer.MAX_VALUE}) {
            talk.state(what, -1);
        }

        // As they were when the book is shut.
        talk.says("build top", "ok").says("go 1", "on");
        talk.house.poke(0, 1);
        // Two is out of the kept ones: done at once.
        states(talk, 2, 3, 1, 1, 1, 3, 1, 3);
        workers(talk, 0, -1);
        talk.state(8, -1);
        talk.feed("files");
        talk.state(9, 20);
        talk.says("files", "shut");
        talk.state(10, 4).state(9, 0);
        talk.says("house", "ok");
        states(talk, 0, 0, 0, 0, 0, 0, 0, 0);
        workers(talk, -1, -1);
        talk.state(8, 7);
        Talk.end();
    }

    private static void states(Talk talk, int... due) {
        for (int what = 0; what < due.length; what++) {
            talk.state(what, due[what]);
        }
    }

    private static void workers(Talk talk, int first, int second) {
        talk.state(11, first).state(12, second);
    }
}
