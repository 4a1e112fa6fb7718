/** Promise 7: byteAt. */
public final class Promise7Test {
    public static void main(String[] args) {
        Talk talk = new Talk();
        for (int i : new int[] {-1, 2048, 2049, Integer.MIN_VALUE, Integer.MAX_VALUE}) {
            Talk.due("byteAt(" + i + ")", talk.house.byteAt(i), -1);
        }
        talk.says("gone a", "no file").says("files", "");
        Talk.due("a refused request's record", talk.house.byteAt(0), 0);

        talk.says("put a <~>", "ok");
        // 1*112 + 2*117 + 3*116 + 4*32 + 5*97 + 6*32 + 7*60 + 8*126 + 9*62 = 3485, less 13 times 251: 222.
        int[] due = {9, 'p', 'u', 't', ' ', 'a', ' ', '<', '~', '>', 223, 0};
        for (int i = 0; i < due.length; i++) {
            Talk.due("byteAt(" + i + ")", talk.house.byteAt(i), due[i]);
        }
        talk.says("unwish", "no rule").says("house", "ok");
        // All bytes are 0, then the house's own record.
        int[] house = {5, 'h', 'o', 'u', 's', 'e', 1 + (104 + 2 * 111 + 3 * 117 + 4 * 115 + 5 * 101) % 251, 0, 0};
        for (int i = 0; i < house.length; i++) {
            Talk.due("byteAt(" + i + ") of a house", talk.house.byteAt(i), house[i]);
        }
        // A byte above 127 is told as it is, also when poked.
        talk.house.poke(2047, 255);
        Talk.due("byteAt(2047)", talk.house.byteAt(2047), 255);
        Talk.end();
    }
}
