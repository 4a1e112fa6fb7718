/** Promise 2: feed. */
public final class Promise2Test {
    public static void main(String[] args) {
        BuildHouse x = new BuildHouse();
        Talk.due("feed", x.feed(0x68000000, 0, 0, 0, 0), 20);
        Talk.due("feed again", x.feed(0, 0, 0, 0, 0), 40);
        // 200 times 20 bytes are just the tape.
        for (int i = 3; i <= 200; i++) {
            Talk.due("feed " + i, x.feed(i, -i, Integer.MIN_VALUE, Integer.MAX_VALUE, -1), 20 * i);
        }
        Talk.due("feed beyond 4,000", x.feed(1, 1, 1, 1, 1), -1);
        Talk.due("the tape", x.state(9), 4000);
        Talk.due("feed beyond 4,000 again", x.feed(1, 1, 1, 1, 1), -1);

        // Four bytes of each number, the highest first, behind those that are there.
        Talk talk = new Talk();
        talk.house.feed(('p' << 24) + ('u' << 16) + ('t' << 8) + ' ', ('a' << 24) + (' ' << 16) + ('<' << 8) + '1',
            ('2' << 24) + ('3' << 16) + ('4' << 8) + '5', ('6' << 24) + ('7' << 16) + ('8' << 8) + '9',
            ('a' << 24) + ('b' << 16) + ('c' << 8) + 'd');
        talk.house.feed(('e' << 24) + ('>' << 16), 0, 0, 0, 0);
        Talk.due("ask", talk.house.ask(22), 2);
        talk.says("show a", "123456789abcde");

        // A byte above 127 is a byte, too, and a wrong one.
        BuildHouse z = new BuildHouse();
        z.feed(('p' << 24) + ('u' << 16) + 0xf420, 0, 0, 0, 0);
        Talk.due("ask of a byte above 127", z.ask(4), 5);
        Talk.due("its place", z.answer(4), (int) '2');
        Talk.end();
    }
}
