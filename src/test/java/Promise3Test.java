/** Promise 3: ask, but for what the requests say: that is in the other tests. */
public final class Promise3Test {
    public static void main(String[] args) {
        Talk talk = new Talk();
        talk.feed("filesshow");
        Talk.due("ask(-1)", talk.house.ask(-1), -1);
        Talk.due("ask(21)", talk.house.ask(21), -1);
        Talk.due("ask(MIN)", talk.house.ask(Integer.MIN_VALUE), -1);
        Talk.due("ask(MAX)", talk.house.ask(Integer.MAX_VALUE), -1);
        talk.state(9, 20).state(10, 0);
        // The first bytes count, all of the tape is gone.
        Talk.due("ask(5)", talk.house.ask(5), 0);
        talk.state(9, 0);
        Talk.due("ask(1) of an empty tape", talk.house.ask(1), -1);

        // Nothing is a request, too.
        Talk.due("ask(0)", talk.house.ask(0), 5);
        Talk.due("ask(0)'s answer", talk.answer(), "bad 0");
        talk.feed("house");
        Talk.due("ask(0) with a tape", talk.house.ask(0), 5);
        talk.state(9, 0);

        // The whole tape is a request.
        talk.feed("put a <12345678901>");
        talk.house.feed(0, 0, 0, 0, 0);
        Talk.due("ask(40)", talk.house.ask(40), 6);
        Talk.due("its answer", talk.answer(), "bad 19");

        // A refused ask leaves the answer.
        Talk.due("ask(7)", talk.house.ask(7), -1);
        Talk.due("the answer of before", talk.answer(), "bad 19");
        Talk.end();
    }
}
