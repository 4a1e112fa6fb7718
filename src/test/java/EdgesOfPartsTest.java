/** The edges of the parts of others: their rules, the solution, trees and what judges them, sentence by sentence. */
public final class EdgesOfPartsTest {
    public static void main(String[] args) {
        refusals();
        twentyRules();
        ruleTexts();
        solutions();
        meets();
        brokenWishes();
        brokenNeeds();
        theTree();
        twoDigits();
        openTrees();
        decidedAgain();
        shortTrees();
        Talk.end();
    }

    private static void refusals() {
        Talk.sentence("PARTS of others 0 to 4 have the versions 1, 2, 3.");
        Talk.sentence("\"no part\" when Q (or P) is above 4; \"no version\" when L, H (or V) is not 1 to 3, or L is above H; \"no room\" with 20 rules; else \"rule K\".");
        Talk talk = new Talk();
        talk.eachSays("no part", "wish 5 1 1", "wish 9999 1 1", "wish 5 0 0", "wish 5 4 1", "need 5 1 0 1 1", "need 0 1 5 1 1",
            "need 5 1 5 1 1", "need 5 0 0 1 1", "need 0 0 5 1 1", "need 0 1 5 3 1", "need 5 1 0 0 9", "need 9999 9999 9999 1 1");
        talk.eachSays("no version", "wish 0 0 1", "wish 0 0 0", "wish 0 1 0", "wish 0 1 4", "wish 0 4 4", "wish 4 2 1",
            "wish 4 3 2", "wish 4 3 1", "wish 0 9999 9999", "need 0 0 1 1 1", "need 0 4 1 1 1", "need 0 9999 1 1 1",
            "need 0 1 1 0 1", "need 0 1 1 1 0", "need 0 1 1 1 4", "need 0 1 1 4 4", "need 0 1 1 2 1", "need 4 3 4 3 2");
        talk.state(2, 0).state(8, 0).says("rules", "").says("unwish", "no rule");
        talk.says("wish 4 1 1", "rule 0").says("wish 0 3 3", "rule 1").says("wish 0 1 3", "rule 2").says("need 4 1 4 3 3", "rule 3");
        talk.says("need 0 3 0 1 3", "rule 4").says("need 4 2 0 2 3", "rule 5").state(2, 6);
    }

    private static void twentyRules() {
        Talk.sentence("RULES 0, 1, .. (at most 20)");
        Talk talk = new Talk();
        for (int k = 0; k < 20; k++) {
            talk.says(k % 3 == 0 ? "need 1 1 2 1 1" : "wish 0 1 3", "rule " + k).state(2, k + 1);
        }
        int used = talk.house.state(8);
        talk.says("wish 0 1 3", "no room").says("need 0 1 0 1 1", "no room").state(2, 20).state(8, used);
        // Behind the others.
        talk.says("wish 5 1 3", "no part").says("wish 0 0 3", "no version").says("need 0 4 0 1 1", "no version");
        Talk.sentence("unwish: \"no rule\" without one; else the latest one is gone.");
        talk.says("unwish", "ok").state(2, 19).says("wish 3 3 3", "rule 19").says("wish 3 3 3", "no room");
        talk.says("solve", "3 - - 3 -");
        for (int k = 20; k > 0; k--) {
            talk.state(2, k).says("unwish", "ok");
        }
        talk.state(2, 0).says("unwish", "no rule").says("rules", "").says("solve", "- - - - -").says("wish 1 1 1", "rule 0");
    }

    private static void ruleTexts() {
        Talk.sentence("rules: of each \"wQ L H;\" or \"nP V Q L H;\".");
        Talk.of("""
            rules =>
            wish 0 1 3 => rule 0
            rules => w0 1 3;
            need 4 3 0 2 2 => rule 1
            wish 4 3 3 => rule 2
            need 0 1 0 1 1 => rule 3
            rules => w0 1 3;n4 3 0 2 2;w4 3 3;n0 1 0 1 1;
            unwish => ok
            rules => w0 1 3;n4 3 0 2 2;w4 3 3;""");
    }

    private static void solutions() {
        Talk.sentence("THE SOLUTION: of those with the fewest parts the one with the greatest version of part 0 (none is 0), then of part 1, and so on.");
        // The fewest parts are ahead of greater versions.
        solved("2 - - - -", "wish 0 1 3", "need 0 3 1 1 1");
        solved("1 - - - -", "wish 0 1 3", "need 0 3 1 1 1", "need 0 2 4 1 1");
        solved("3 1 - - -", "wish 0 1 3", "need 0 3 1 1 1", "need 0 2 4 1 1", "need 0 1 2 3 3");
        // Then part 0, then part 1 and so on, though a later part could have a greater version.
        solved("- 3 1 - -", "wish 1 1 3", "wish 2 1 3", "need 1 3 2 1 1", "need 1 2 2 2 2");
        solved("- 2 - 3 -", "wish 3 1 3", "need 3 1 4 1 3", "need 3 2 2 3 3", "need 3 3 1 1 2");
        solved("1 - - 1 -", "wish 3 1 3", "need 3 1 0 1 1", "need 3 2 1 3 3", "need 3 3 2 3 3");
        // None is less than 1.
        solved("- 1 - - 1", "wish 4 1 2", "need 4 1 1 1 1", "need 4 2 2 3 3");
        solved("- - - - -");
        solved("- - - - 3", "wish 4 1 3");
        solved("1 2 3 1 2", "wish 0 1 1", "wish 1 2 2", "wish 2 3 3", "wish 3 1 1", "wish 4 2 2");
        solved("3 3 3 3 3", "wish 0 1 3", "wish 1 1 3", "wish 2 1 3", "wish 3 1 3", "wish 4 1 3");
        solved("2 - - - -", "wish 0 1 2", "wish 0 2 3");
        // A need of a part of itself; needs of what is not there; needs that go round.
        solved("2 - - - -", "wish 0 1 3", "need 0 3 0 1 2");
        solved("- - - - -", "need 0 1 1 1 1", "need 1 1 0 2 2");
        solved("3 3 3 3 3", "wish 2 1 3", "need 2 3 4 3 3", "need 2 2 4 1 3", "need 2 1 4 1 3", "need 4 3 0 3 3", "need 4 2 0 1 3",
            "need 4 1 0 1 3", "need 0 3 3 3 3", "need 0 2 3 1 3", "need 0 1 3 1 3", "need 3 3 1 3 3", "need 3 2 1 1 3",
            "need 3 1 1 1 3", "need 1 3 2 3 3");
        Talk.sentence("solve: THE SOLUTION: for each part its version or -, with \" \" between; \"none\".");
        solved("none", "wish 0 1 1", "wish 0 2 2");
        solved("none", "wish 0 1 3", "need 0 1 0 2 3", "need 0 2 0 1 1", "need 0 3 0 1 2");
        solved("none", "wish 4 3 3", "need 4 3 0 1 1", "need 0 1 4 1 2");
    }

    private static void solved(String due, String... rules) {
        Talk talk = new Talk();
        for (int k = 0; k < rules.length; k++) {
            talk.says(rules[k], "rule " + k);
        }
        talk.says("solve", due);
        // What is told is a solution; and there is a tree when there is none.
        if (due.equals("none")) {
            talk.tell("refute");
            Talk.due("disproveAnswer", talk.house.disproveAnswer(), 7);
        } else {
            talk.says("meets " + due, "meets").says("refute", "solved");
        }
    }

    private static void meets() {
        Talk.sentence("meets X ..: \"five\" when there are not five; \"broken K\", the lowest rule that does not hold; else \"meets\".");
        Talk.of("""
            meets - - - - - => meets
            meets 3 3 3 3 3 => meets
            meets - - - - => five
            meets - - - - - - => five
            wish 0 2 3 => rule 0
            wish 4 1 2 => rule 1
            need 0 3 4 2 2 => rule 2
            need 4 2 1 1 1 => rule 3
            meets - - - - => five
            meets 1 1 1 1 1 1 => five
            meets - - - - - => broken 0
            meets 1 - - - - => broken 0
            meets 2 - - - - => broken 1
            meets 2 - - - 3 => broken 1
            meets 2 - - - 1 => meets
            meets 3 - - - 1 => broken 2
            meets 3 - - - 2 => broken 3
            meets 3 2 - - 2 => broken 3
            meets 3 1 - - 2 => meets
            meets 3 1 3 3 2 => meets
            meets 1 - - - 3 => broken 0""");
    }

    /** A tree of one part: at its fourth leaf is what is asked for; its other leaves are broken by rules 1 and 2. */
    private static void brokenWishes() {
        Talk.sentence("a wish's Q was decided on the way, and is none or not L to H");
        // For each bounds: which of none, 1, 2, 3 break the wish.
        String[][] wishes = {{"1 1", "yes no yes yes"}, {"2 2", "yes yes no yes"}, {"3 3", "yes yes yes no"},
            {"1 2", "yes no no yes"}, {"2 3", "yes yes no no"}, {"1 3", "yes no no no"}};
        for (String[] w : wishes) {
            for (int part = 0; part < 5; part++) {
                Talk talk = new Talk();
                talk.says("wish " + part + " " + w[0], "rule 0").says("disprove !00", "open 0");
                // Another part is decided, but not this one.
                talk.says("disprove ?" + (part + 1) % 5 + "!00!00!00!00", "open 0");
                breaks(talk, part, w[1]);
            }
        }
    }

    /** Looks at a rule 0 at each version of a part that is decided alone: two wishes break at all places. */
    private static void breaks(Talk talk, int part, String due) {
        int rule = talk.house.state(2);
        talk.says("wish " + part + " 1 1", "rule " + rule).says("wish " + part + " 2 2", "rule " + (rule + 1));
        String a = "!0" + rule;
        String b = "!0" + (rule + 1);
        String[] leaves = {a, b, a, a};
        String[] dues = due.split(" ");
        talk.says("disprove ?" + part + a + b + a + a, "refuted");
        for (int version = 0; version < 4; version++) {
            StringBuilder tree = new StringBuilder("?" + part);
            for (int v = 0; v < 4; v++) {
                tree.append(v == version ? "!00" : leaves[v]);
            }
            talk.says("disprove " + tree, dues[version].equals("yes") ? "refuted" : "open " + version);
        }
    }

    private static void brokenNeeds() {
        Talk.sentence("a need's P was decided V, and Q decided, none or not L to H");
        // P is not decided, or Q is not: not broken, whatever the other one is.
        Talk talk = Talk.of("need 1 2 3 2 2 => rule 0");
        talk.says("disprove !00", "open 0").says("disprove ?1!00!00!00!00", "open 0").says("disprove ?3!00!00!00!00", "open 0");
        talk.says("wish 1 1 1", "rule 1").says("wish 1 3 3", "rule 2").says("wish 3 1 1", "rule 3").says("wish 3 3 3", "rule 4");
        // At version 2 of part 1, and only there, part 3 must be 2.
        talk.says("disprove ?1!01!02?3!00!00!00!00!01", "open 4").says("disprove ?1!01!02?3!00!00!03!00!01", "refuted");
        talk.says("disprove ?1?3!00!00!00!00!02!01!01", "open 0").says("disprove ?1!01?3!00!00!00!00!01!01", "open 1");
        talk.says("disprove ?1!01!02!01?3!00!00!00!00", "open 3");
        // The other way round it is the same.
        talk.says("disprove ?3?1!01!02!00!01?1!01!02!00!01!03?1!01!02!00!01", "refuted");
        talk.says("disprove ?3?1!01!02!00!01?1!01!02!00!01?1!01!02!00!01!03", "open 10");
        // Of a part of itself.
        talk = Talk.of("need 0 1 0 2 3 => rule 0");
        talk.says("wish 0 2 2", "rule 1").says("wish 0 3 3", "rule 2").says("disprove ?0!01!00!02!01", "refuted");
        talk.says("disprove ?0!00!00!00!00", "open 0").says("disprove ?0!01!00!00!01", "open 2");
    }

    private static void theTree() {
        Talk.sentence("THE TREE: at each place the lowest rule that is broken there, else the lowest part that is not decided.");
        Talk talk = Talk.of("""
            wish 1 1 3 => rule 0
            wish 0 1 1 => rule 1
            wish 0 1 2 => rule 2
            need 0 1 1 3 3 => rule 3
            need 1 3 0 2 3 => rule 4""");
        talk.says("refute", "?0!01?1!00!03!03!04!01!01").says("solve", "none");
        // With rule 3 ahead of all nothing else changes but the numbers.
        talk = Talk.of("""
            need 0 1 1 3 3 => rule 0
            need 1 3 0 2 3 => rule 1
            wish 0 1 1 => rule 2
            wish 1 1 3 => rule 3""");
        talk.says("refute", "?0!02?1!00!00!00!01!02!02");
        // A part that no rule names is decided, too, when it is lower.
        talk = Talk.of("""
            wish 1 1 1 => rule 0
            wish 1 2 2 => rule 1""");
        String one = "?1!00!01!00!00";
        talk.says("refute", "?0" + one.repeat(4)).says("disprove " + one, "refuted");
        Talk.sentence("refute: \"solved\" when there is a solution; else THE TREE.");
        talk.says("unwish", "ok").says("refute", "solved").says("unwish", "ok").says("refute", "solved");
    }

    private static void twoDigits() {
        Talk.sentence("!KK, rule KK (two digits)");
        Talk talk = new Talk();
        for (int k = 0; k < 9; k++) {
            talk.says("wish 0 1 3", "rule " + k);
        }
        talk.says("need 0 1 0 2 2", "rule 9").says("need 0 2 0 1 1", "rule 10").says("need 1 1 1 2 2", "rule 11");
        for (int k = 12; k < 19; k++) {
            talk.says("need 2 1 2 1 1", "rule " + k);
        }
        talk.says("need 0 3 0 1 2", "rule 19").says("refute", "?0!00!09!10!19").says("disprove ?0!08!09!10!19", "refuted");
        talk.says("disprove ?0!00!09!10!20", "open 3").says("disprove ?0!00!09!01!19", "open 2");
        talk.says("disprove ?0!00!90!10!19", "open 1").says("disprove ?0!99!09!10!19", "open 0");
        talk.says("disprove ?0!00!10!10!19", "open 1").says("disprove ?0!00!09!10!09", "open 3");
        // 19 is there no more: not broken, though it would be.
        talk.says("unwish", "ok").says("disprove ?0!00!09!10!19", "open 3").says("wish 0 1 2", "rule 19");
        talk.says("disprove ?0!00!09!10!19", "refuted");
    }

    private static void openTrees() {
        Talk.sentence("disprove R: at the first ! of it, from the left, whose rule is not there or not broken there: \"open K\", how many !s there are ahead of it; else \"refuted\".");
        Talk talk = Talk.of("disprove !00 => open 0");
        talk.says("disprove ?0!00!00!00!00", "open 0").says("wish 0 1 1", "rule 0").says("wish 0 2 2", "rule 1");
        talk.says("disprove ?0!00!01!00!00", "refuted").says("disprove ?0!02!01!00!00", "open 0");
        talk.says("disprove ?0!00!02!00!00", "open 1").says("disprove ?0!00!00!02!02", "open 1");
        talk.says("disprove ?0!00!01!02!01", "open 2").says("disprove ?0!00!01!00!02", "open 3");
        talk.says("disprove ?0!00!01!00!99", "open 3").says("disprove ?1?0!00!01!00!00?0!00!01!00!00!00!00", "open 8");
        talk.says("disprove ?0?1!00!00!00!00?1!01!01!01!01?1!00!00!00!00?1!00!01!00!01", "refuted");
        talk.says("disprove ?0?1!00!00!00!00?1!01!01!01!01?1!00!00!00!00?1!00!01!00!02", "open 15");

        Talk.sentence("(Also digits of parts above 4: \"open K\" likewise, K the !s ahead of that ?.)");
        for (int part = 5; part < 10; part++) {
            talk.says("disprove ?" + part + "!00!01!00!00", "open 0").says("disprove ?0!00!01!00?" + part + "!00!00!00!00", "open 3");
            talk.says("disprove ?0?" + part + "!00!00!00!00!01!00!00", "open 0");
        }
        talk.says("disprove ?4?0!00!01!00!00?0!00!01!00!00?0!00!01!00!00?0!00!01!00!00", "refuted");
        // The first of them, from the left.
        talk.says("disprove ?0!00!00!00?5!00!00!00!00", "open 1").says("disprove ?0!00?5!00!00!00!00!01!00", "open 1");
        talk.says("disprove ?0!00!01?6!00?7!00!00!00!00!00!00!00", "open 2");
    }

    private static void decidedAgain() {
        Talk.sentence("(A way that decides a part again: the last one counts.)");
        Talk talk = Talk.of("""
            wish 0 1 1 => rule 0
            wish 0 2 2 => rule 1""");
        // Below the first decision it is the second one that counts: 1 is broken by rule 1, where none is by both.
        talk.says("disprove ?0?0!00!01!00!00!01!00!00", "refuted").says("disprove ?0?0!00!00!00!00!01!00!00", "open 1");
        talk.says("disprove ?0!00?0!00!01!00!00!00!00", "refuted").says("disprove ?0!00?0!01!01!01!01!00!00", "open 3");
        // Behind the second one the first one counts again: at 1, 2, 3.
        talk.says("disprove ?0!00?0!00!01!00!00!01!00", "open 5").says("disprove ?0?0!00!01!00!00!00!00!00", "open 4");
        talk.says("disprove ?0!00!01!00?0!00!01!00!00", "refuted").says("disprove ?0!00!01!00?0!00!01!00!01", "refuted");
        talk.says("disprove ?0!00!01!00?0!00!01!01!01", "open 5");
        // Three times, with another part between.
        String again = "?0?1?0!00!01!00!00!00!00!00!01!00!00";
        talk.says("disprove " + again, "refuted").says("disprove " + again.replace("!00!00!00!01", "!00!00!02!01"), "open 6");
        talk.says("need 1 2 0 3 3", "rule 2");
        talk.says("disprove ?1?0!00!01!00!00?0!00!01!00!00?1!00?0!00!01!00!00!02!00?0!00!01!00!00", "open 8");
        talk.says("disprove ?0!00!01!00?1!01?1!01!01!01!01!01!01", "refuted");
    }

    private static void shortTrees() {
        Talk.sentence("(its place is how many bytes there are, when it ends too soon)");
        Talk talk = Talk.of("""
            wish 0 1 1 => rule 0
            wish 0 2 2 => rule 1""");
        String tree = "?1?0!00!01!00!00?0!00!01!00!00?0!00!01!00!00?0!00!01!00!00";
        talk.says("disprove " + tree, "refuted");
        for (int i = 0; i < tree.length(); i++) {
            talk.says("disprove " + tree.substring(0, i), "bad " + (9 + i));
        }
        // A tree that is open or broken ahead is bad nevertheless.
        talk.says("disprove ?5!00!00!00", "bad 20").says("disprove ?0!99!99!99!9", "bad 22").says("disprove ?9", "bad 11");
    }
}
