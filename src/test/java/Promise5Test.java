/** Promise 5: disproveAnswer. */
public final class Promise5Test {
    public static void main(String[] args) {
        Talk talk = new Talk();
        disproves(talk, "bad 9");
        // "disprove bad 9": the b is no tree.
        disproves(talk, "bad 9");

        talk.go("""
            wish 4 1 1 => rule 0
            wish 4 2 3 => rule 1""".stripIndent());
        // The rules' own tree is large: the parts ahead of 4 are decided first.
        talk.feed("refute");
        talk.house.ask(6);
        // 1 + 4 + 16 + 64 + 256 parts, and 1024 broken rules.
        Talk.due("the tree's length", talk.house.state(10), 2 * 341 + 3 * 1024);
        talk.feed("x");
        disproves(talk, "refuted");
        talk.state(9, 20);
        // "disprove refuted"
        disproves(talk, "bad 9");

        talk.house.ask(0);
        talk.feed("unwish");
        talk.house.ask(6);
        talk.feed("refute");
        talk.house.ask(6);
        Talk.due("answer", talk.answer(), "solved");
        disproves(talk, "bad 9");

        // A tree that was told as an answer is judged by the rules of now.
        talk.go("""
            wish 0 1 1 => rule 1
            wish 0 2 2 => rule 2
            refute => ?0!01!02!01!01""".stripIndent());
        disproves(talk, "refuted");
        // No bytes: as without an answer.
        talk.says("runs", "");
        disproves(talk, "bad 9");

        // The book may be shut.
        talk.says("refute", "?0!01!02!01!01");
        talk.house.poke(0, 1);
        disproves(talk, "shut");
        disproves(talk, "bad 9");
        Talk.end();
    }

    private static void disproves(Talk talk, String due) {
        int length = talk.house.disproveAnswer();
        Talk.due("disproveAnswer's answer", talk.answer(), due);
        Talk.due("disproveAnswer", length, due.length());
    }
}
