/** Promise 3: needs, users, way and longest. */
public final class ChainsTest {
    public static void main(String[] args) {
        // Numbers: c 0, b 1, a 2, d 3, e 4, f 5.
        Talk talk = Talk.of("""
            target c=join(p/3,p.1) => ok
            target b=join(:c,p_2) => ok
            target a=join(:b,:d,:nope,p.1) => ok
            target d=join(:e,:c) => ok
            target e=join(q,p0) => ok
            target f=join(:a,q) => ok
            needs a => c;b;d;e;p.1,p/3,p0,p_2,q,
            needs f => c;b;a;d;e;p.1,p/3,p0,p_2,q,
            needs c => p.1,p/3,
            needs b => c;p.1,p/3,p_2,
            needs nope => no target
            users p.1 => c;b;a;d;f;
            users q => a;d;e;f;
            users p_2 => b;a;f;
            users p =>
            users a =>
            users nope =>
            way f c => f a b c
            way f e => f a d e
            way a a => a
            way a c => a b c
            way d c => d c
            way c d => none
            way b e => none
            way a nope => no target
            way nope a => no target
            way nope nope => no target
            longest f => 4 f a b c
            longest a => 3 a b c
            longest c => 1 c
            longest e => 1 e
            longest nope => no target
            target e=join(:g,q) => ok
            target g=join(:h) => ok
            longest f => 5 f a d e g
            target h=join(p0) => ok
            longest f => 6 f a d e g h
            way f h => f a d e g h
            needs d => c;e;g;h;p.1,p/3,p0,q,
            drop e => ok
            needs d => c;p.1,p/3,
            needs e => no target
            users q => f;
            users p0 => g;h;
            way f e => no target
            way f h => none
            longest f => 4 f a b c
            drop c => ok
            longest f => 3 f a b
            needs a => b;d;p.1,p_2,
            users p/3 =>
            target f=join(:d,:b,:a,:h) => ok
            way f b => f b
            longest f => 3 f a b""".stripIndent());
        // A short name of eight signs, and one that it begins.
        Talk.of("""
            target abcdefgh=join(abcdefgh,abcdefghi,abcdefgh,abcdefg) => ok
            target abcdefg=join(:abcdefgh,abcdefghi) => ok
            needs abcdefg => abcdefgh;abcdefg,abcdefgh,abcdefghi,
            users abcdefghi => abcdefgh;abcdefg;
            users abcdefgh => abcdefgh;abcdefg;
            users abcdefg => abcdefgh;abcdefg;""".stripIndent());
        many();
        // Chains are of what is told, with no regard to a session, or to files.
        talk = Talk.of("""
            put x <1> => ok
            target t=join(x) => ok
            build t => ok
            target t=join(y,:u) => ok
            target u=join(z) => ok
            needs t => u;y,z,
            users x =>
            way t u => t u
            go 9 => built""".stripIndent());
        Talk.end();
    }

    /** Fourteen in one row, each naming all behind it, too. */
    private static void many() {
        Talk talk = new Talk();
        String all = "t13";
        talk.says("target t13=join(z)", "ok");
        for (int t = 12; t >= 0; t--) {
            StringBuilder inputs = new StringBuilder(":t" + (t + 1));
            for (int u = t + 2; u < t + 5 && u < 14; u++) {
                inputs.append(",:t").append(u);
            }
            talk.says("target t" + t + "=join(" + inputs + ",f" + t + ")", "ok");
            all = "t" + t + " " + all;
        }
        talk.says("longest t0", "14 " + all);
        // Steps of up to 4; the numbers go the other way round: t13 is 0.
        talk.says("way t0 t13", "t0 t4 t8 t12 t13");
        talk.says("way t0 t12", "t0 t4 t8 t12").says("way t0 t3", "t0 t3").says("way t1 t0", "none");
        talk.says("users z", "t13;t12;t11;t10;t9;t8;t7;t6;t5;t4;t3;t2;t1;t0;");
        talk.says("target t13=join(:t0)", "circle").says("target t13=join(:t12)", "circle");
    }
}
