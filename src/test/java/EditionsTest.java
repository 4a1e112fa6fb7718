/** Promise 3: release and edition. */
public final class EditionsTest {
    public static void main(String[] args) {
        Talk talk = Talk.of("""
            put a <pub x=1|y=1> => ok
            target t=compile(a) => ok
            release t => none
            edition t => none
            release nope => none
            edition nope => none
            build t => ok
            release t => none
            go 99 => built
            edition t => none
            release t => 1.0.0
            edition t => 1.0.0
            release t => same 1.0.0
            edition t => 1.0.0""".stripIndent());
        // Only the output; then a line more; a line less; both; all that is behind begins again.
        step(talk, "pub x=1|y=2", "1.0.1");
        step(talk, "pub x=1|y=3", "1.0.2");
        step(talk, "pub x=1|pub y=3", "1.1.0");
        step(talk, "pub x=1|pub y=3|z=1", "1.1.1");
        step(talk, "pub x=1|pub y=3|pub z=1", "1.2.0");
        step(talk, "pub x=2|pub y=3|pub z=1", "2.0.0");
        step(talk, "pub y=3|pub z=1", "3.0.0");
        step(talk, "pub z=1|pub y=3", "3.0.1");
        step(talk, "pub z=1||pub y=3|", "same 3.0.1");
        step(talk, "", "4.0.0");
        step(talk, "a=1", "4.0.1");
        step(talk, "pub b=1", "4.1.0");

        // Of a target of another rule the face is the output; lines that are alike count once.
        talk.says("target t=join(a)", "ok");
        step(talk, "b=1|b=1|b=1", "4.1.1");
        step(talk, "b=1", "4.1.2");
        step(talk, "b=1|", "4.1.3");
        step(talk, "b=1||", "4.2.0");
        step(talk, "|b=1", "4.2.1");
        step(talk, "b=1", "5.0.0");
        // Against the released one, not against those between.
        talk.says("put a <c>", "ok").says("build t", "ok").says("go 99", "built").says("edition t", "5.0.0");
        step(talk, "b=1", "same 5.0.0");
        // A failure puts nothing; what was put stays when the target is dropped, also its edition.
        talk.go("""
            gone a => ok
            build t => ok
            go 9 => failed t: no file a
            release t => same 5.0.0
            drop t => ok
            release t => same 5.0.0
            edition t => 5.0.0
            output t => b=1
            target u=join(b) => ok
            edition u => none
            put b <> => ok
            build u => ok
            go 9 => built
            release u => 1.0.0
            release u => same 1.0.0
            target t=upper(b) => ok
            build t => ok
            go 9 => built
            release t => 6.0.0""".stripIndent());
        // A release is a record; a refused one is not.
        int used = talk.house.state(8);
        talk.says("release u", "same 1.0.0").state(8, used + 11).says("release z", "none").state(8, used + 11);
        // Above 9.
        talk.says("target t=join(a)", "ok");
        step(talk, "x", "6.1.0");
        for (int i = 7; i < 13; i++) {
            step(talk, "x" + i, i + ".0.0");
        }
        talk.says("house", "ok").says("edition t", "none").says("release t", "none");
        Talk.end();
    }

    private static void step(Talk talk, String bytes, String due) {
        talk.says("put a <" + bytes + ">", "ok").says("build t", "ok").says("go 99", "built");
        talk.says("release t", due).says("edition t", due.replace("same ", ""));
    }
}
