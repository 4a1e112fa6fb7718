/** Promise 3: versions of outside parts, their solution, and trees. */
public final class VersionsTest {
    public static void main(String[] args) {
        rules();
        solutions();
        trees();
        Talk.end();
    }

    private static void rules() {
        Talk talk = Talk.of("""
            wish 5 1 3 => no part
            wish 5 0 9 => no part
            wish 0 0 3 => no version
            wish 0 1 4 => no version
            wish 0 3 2 => no version
            wish 9999 1 1 => no part
            need 5 1 0 1 1 => no part
            need 0 1 5 1 1 => no part
            need 5 0 0 1 1 => no part
            need 0 0 1 1 1 => no version
            need 0 4 1 1 1 => no version
            need 0 1 1 0 1 => no version
            need 0 1 1 1 4 => no version
            need 0 1 1 2 1 => no version
            rules =>
            unwish => no rule
            wish 4 1 3 => rule 0
            need 4 3 0 2 2 => rule 1
            wish 0 3 3 => rule 2
            rules => w4 1 3;n4 3 0 2 2;w0 3 3;
            meets 3 - - - 2 => meets
            meets 3 - - - 3 => broken 1
            meets 2 - - - 3 => broken 2
            meets - - - - - => broken 0
            meets 3 - - - - => broken 0
            meets - - - - 3 => broken 1
            meets 3 - - - => five
            meets 3 => five
            meets 3 - - - 2 - => five
            unwish => ok
            rules => w4 1 3;n4 3 0 2 2;
            meets 2 - - - 3 => meets
            wish 1 2 2 => rule 2
            unwish => ok
            need 0 1 1 2 3 => rule 2
            rules => w4 1 3;n4 3 0 2 2;n0 1 1 2 3;""".stripIndent());
        talk.state(2, 3);
        for (int k = 3; k < 20; k++) {
            talk.says(k % 2 == 0 ? "need 0 1 0 1 1" : "wish 1 2 3", "rule " + k);
        }
        talk.says("wish 1 1 1", "no room").says("need 1 1 1 1 1", "no room").says("wish 5 1 1", "no part");
        talk.says("wish 1 1 4", "no version").state(2, 20);
        talk.says("unwish", "ok").says("wish 1 1 1", "rule 19").state(2, 20).says("house", "ok").says("rules", "");
    }

    private static void solutions() {
        // The fewest parts; then the greatest version of part 0, then of part 1, and so on.
        Talk.of("""
            wish 1 1 3 => rule 0
            solve => - 3 - - -
            need 1 3 0 1 2 => rule 1
            solve => - 2 - - -
            need 1 2 0 1 2 => rule 2
            need 1 1 4 1 3 => rule 3
            solve => 2 3 - - -
            need 0 2 3 1 1 => rule 4
            solve => 1 3 - - -
            need 0 1 3 2 3 => rule 5
            solve => - 1 - - 3
            need 4 3 2 1 1 => rule 6
            need 4 2 2 1 1 => rule 7
            need 4 1 2 3 3 => rule 8
            solve => 2 3 - 1 -
            need 3 1 1 1 1 => rule 9
            solve => 1 3 - 3 -
            need 3 3 1 1 2 => rule 10
            solve => 1 3 - 2 -
            need 3 2 1 1 2 => rule 11
            solve => 1 2 - 3 -
            wish 2 2 2 => rule 12
            solve => 1 2 2 3 -
            need 1 2 2 3 3 => rule 13
            solve => none
            unwish => ok
            need 2 2 2 1 1 => rule 13
            solve => none
            meets 1 2 2 3 - => broken 13
            disprove !13 => open 0
            disprove ?2!12!12!13!12 => refuted""".stripIndent());
        // All five parts.
        Talk.of("""
            wish 0 1 3 => rule 0
            wish 1 1 3 => rule 1
            wish 2 1 3 => rule 2
            wish 3 1 3 => rule 3
            solve => 3 3 3 3 -
            wish 4 1 3 => rule 4
            solve => 3 3 3 3 3
            need 0 3 4 2 2 => rule 5
            solve => 3 3 3 3 2
            need 4 2 1 1 1 => rule 6
            solve => 3 1 3 3 2""".stripIndent());
        // A need of what is not there holds; a part that needs another version of itself can't be so.
        Talk.of("""
            need 0 3 0 1 2 => rule 0
            wish 0 2 3 => rule 1
            solve => 2 - - - -
            meets 3 - - - - => broken 0
            need 1 1 2 1 1 => rule 2
            need 2 1 1 2 2 => rule 3
            solve => 2 - - - -
            wish 1 1 1 => rule 4
            solve => none""".stripIndent());
    }

    private static void trees() {
        Talk talk = Talk.of("""
            refute => solved
            wish 0 1 1 => rule 0
            refute => solved
            need 0 1 1 2 2 => rule 1
            need 1 2 0 2 2 => rule 2
            solve => none
            refute => ?0!00?1!01!01!02!01!00!00
            disprove ?0!00?1!01!01!02!01!00!00 => refuted
            disprove ?1?0!00!01!00!00?0!00!01!00!00?0!00!02!00!00?0!00!01!00!00 => refuted
            disprove ?0!00!01!00!00 => open 1
            disprove ?0!01!01!00!00 => open 0
            disprove ?0!00?1!01!01!02!02!00!00 => open 4
            disprove ?0!00?1!01!01!02!01!00!01 => open 6
            disprove ?0!00?1!01!01!02!01!00!03 => open 6
            disprove ?0!00?1!01!01!02!01!00!99 => open 6
            disprove !00 => open 0
            disprove ?5!00!00!00!00 => open 0
            disprove ?0!00?9!01!01!02!01!00!00 => open 1
            disprove ?0!00?1!01!01?7!00!00!00!00!02!00!00 => open 3
            disprove ?0!00?1!01!01!02!01?9!00!00!00!00!00 => open 5
            disprove ?0!03?9!01!01!02!01!00!00 => open 0""".stripIndent());
        // A way that decides a part again: the last one counts, but only below.
        talk.go("""
            disprove ?0?0!00?1!01!01!02!01!00!00?1!01!01!02!01!00!00 => refuted
            disprove ?0?0!00!01!00!00!01!00!00 => open 1
            disprove ?0!00?0!00?1!01!01!02!01!00!00!00!00 => refuted
            disprove ?0!00?1!01!01?1!01!01!02!01!01!00!00 => refuted
            disprove ?0!00?1!01!01?1!01!01!02!01!02!00!00 => open 7
            disprove ?0!00?1!01!01?0!00!02!00!00!01!00!00 => refuted
            disprove ?0!00?1!01!01?0!00!01!00!00!01!00!00 => open 4""".stripIndent());
        // Parts that matter to no rule are decided, too, where they stand ahead of those that do.
        Talk three = Talk.of("""
            wish 2 1 1 => rule 0
            wish 2 2 2 => rule 1""".stripIndent());
        String leaf = "?2!00!01!00!00";
        String one = "?1" + leaf.repeat(4);
        three.says("refute", "?0" + one.repeat(4)).says("disprove " + leaf, "refuted");
        three.says("disprove ?2!00!01!00!01", "refuted").says("disprove ?2!01!01!00!01", "refuted");
        three.says("disprove ?2!00!00!00!01", "open 1").says("disprove ?2!00!01!01!01", "open 2");
        // A rule that is gone is not there, though it would be broken.
        three.says("disprove " + leaf, "refuted").says("unwish", "ok").says("disprove " + leaf, "open 1");
        three.says("meets - - 1 - -", "meets").says("refute", "solved").says("unwish", "ok");
        three.says("disprove " + leaf, "open 0").says("solve", "- - - - -");
        // Rules above 9 have two digits.
        Talk many = new Talk();
        for (int k = 0; k < 12; k++) {
            many.says("wish 0 1 3", "rule " + k);
        }
        many.says("need 0 1 0 2 2", "rule 12").says("need 0 2 0 3 3", "rule 13").says("need 0 3 0 1 1", "rule 14");
        many.says("refute", "?0!00!12!13!14").says("disprove ?0!11!12!13!14", "refuted");
        many.says("disprove ?0!11!12!13!13", "open 3").says("disprove ?0!12!12!13!14", "open 0");
        // Deep: each place decides part 0 anew.
        StringBuilder deep = new StringBuilder("?0!00!12!13!14");
        for (int i = 0; i < 350; i++) {
            deep.insert(0, "?0").append("!12!13!14");
        }
        many.says("disprove " + deep, "refuted");
    }
}
