/** Promise 4: answer. */
public final class Promise4Test {
    public static void main(String[] args) {
        Talk talk = new Talk();
        for (int i : new int[] {0, 1, -1, Integer.MIN_VALUE, Integer.MAX_VALUE}) {
            Talk.due("answer(" + i + ") without one", talk.house.answer(i), -1);
        }
        talk.says("put a <~|>", "ok");
        Talk.due("answer(0)", talk.house.answer(0), (int) 'o');
        Talk.due("answer(1)", talk.house.answer(1), (int) 'k');
        for (int i : new int[] {2, 3, -1, 4095, 4096, Integer.MIN_VALUE, Integer.MAX_VALUE}) {
            Talk.due("answer(" + i + ")", talk.house.answer(i), -1);
        }
        // The latest answer, of no byte more.
        talk.says("show a", "~|").says("runs", "");
        Talk.due("answer(0) of an empty one", talk.house.answer(0), -1);
        talk.says("shows", "bad 4");
        Talk.due("answer(4)", talk.house.answer(4), (int) '4');
        Talk.due("answer(5)", talk.house.answer(5), -1);
        Talk.end();
    }
}
