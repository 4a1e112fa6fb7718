/** Promise 8: poke. */
public final class Promise8Test {
    public static void main(String[] args) {
        Talk talk = new Talk();
        talk.says("put a <x>", "ok");
        int[][] none = {{-1, 1}, {2048, 1}, {0, 0}, {0, 256}, {0, -1}, {0, Integer.MIN_VALUE},
            {Integer.MAX_VALUE, 1}, {Integer.MIN_VALUE, 255}, {5, 257}};
        for (int[] p : none) {
            Talk.due("poke(" + p[0] + ", " + p[1] + ")", talk.house.poke(p[0], p[1]), false);
        }
        // Nothing was done: the book is open, with its bytes.
        talk.state(8, 11).says("show a", "x");
        Talk.due("byteAt(0)", talk.house.byteAt(0), 9);

        Talk.due("poke(0, 255)", talk.house.poke(0, 255), true);
        Talk.due("byteAt(0)", talk.house.byteAt(0), 9 ^ 255);
        talk.state(8, -1);
        talk.says("show a", "shut").says("put b <>", "shut").says("cut 0", "shut").says("cut x", "bad 4");
        // A shut book is poked, too; back to what was, it is right again.
        Talk.due("poke(0, 255)", talk.house.poke(0, 255), true);
        Talk.due("poke(2047, 1)", talk.house.poke(2047, 1), true);
        talk.state(8, -1).says("mend", "1").state(8, 11).says("show a", "x");
        Talk.due("byteAt(2047)", talk.house.byteAt(2047), 0);

        // A poke far behind the records shuts the book as well.
        Talk.due("poke(1000, 128)", talk.house.poke(1000, 128), true);
        talk.state(8, -1).says("files", "shut").says("house", "ok").state(8, 7);
        Talk.due("byteAt(1000)", talk.house.byteAt(1000), 0);
        Talk.end();
    }
}
