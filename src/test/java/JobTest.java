/** Promises 9 to 16: count, operator, letter, input, flow, set, setLetter, loop. */
public final class JobTest {
    public static void main(String[] args) {
        counts();
        refusals();
        operators();
        letters();
        inputs();
        flows();
        bigFlows();
        chains();
        channels();
        setsAndLoops();
        rowsUsedAgain();
        Desk.end();
    }

    private static void dueCounts(Desk desk, int job, String want) {
        StringBuilder row = new StringBuilder();
        for (int what = 0; what <= 7; what++) {
            row.append(what == 0 ? "" : " ").append(desk.x.count(job, what));
        }
        Desk.due("count of job " + job, row.toString(), want);
    }

    private static void counts() {
        Desk desk = new Desk();
        desk.mustRead(0, "", 0);
        dueCounts(desk, 0, "0 0 0 0 0 0 0 0");
        desk.mustRead(1, "# a\nset a = 1; set b = a; # b\nsource s par 3; source t; op u: union from s, t par 2;"
            + "op m: map from u par 2; op o: sink from m; loop m to u; # c", 5);
        dueCounts(desk, 1, "5 2 1 3 4 7 12 4");
        Desk.due("count(2, 0)", desk.x.count(2, 0), JobText.BAD);
        Desk.due("count(-1, 0)", desk.x.count(-1, 0), JobText.BAD);
        Desk.due("count(1, 8)", desk.x.count(1, 8), JobText.BAD);
        Desk.due("count(1, -1)", desk.x.count(1, -1), JobText.BAD);
        desk.x.drop(0);
        Desk.due("count(0, 0)", desk.x.count(0, 0), JobText.STATE);
        Desk.due("count(0, 8)", desk.x.count(0, 8), JobText.BAD);
    }

    private static void refusals() {
        Desk desk = new Desk();
        JobText x = desk.x;
        desk.mustRead(0, "set a = b; source s; op u: union from s, s; loop u to u;", 2);
        for (int bad = -1; bad <= 2; bad += 3) {
            Desk.due("operator, job " + bad, x.operator(bad, 0, 0), JobText.BAD);
            Desk.due("letter, job " + bad, x.letter(bad, 0, 0, 0), JobText.BAD);
            Desk.due("input, job " + bad, x.input(bad, 0, 0, 0), JobText.BAD);
            Desk.due("flow, job " + bad, x.flow(bad, 0, 0), JobText.BAD);
            Desk.due("set, job " + bad, x.set(bad, 0, 0), JobText.BAD);
            Desk.due("setLetter, job " + bad, x.setLetter(bad, 0, true, 0), JobText.BAD);
            Desk.due("loop, job " + bad, x.loop(bad, 0, 0), JobText.BAD);
            Desk.due("print, job " + bad, x.print(bad), JobText.BAD);
            Desk.due("operator, k " + bad, x.operator(0, bad, 0), JobText.BAD);
            Desk.due("letter, k " + bad, x.letter(0, bad, 0, 0), JobText.BAD);
            Desk.due("input, k " + bad, x.input(0, bad, 0, 0), JobText.BAD);
            Desk.due("flow, k " + bad, x.flow(0, bad, 0), JobText.BAD);
            Desk.due("set, k " + bad, x.set(0, bad, 0), JobText.BAD);
            Desk.due("setLetter, k " + bad, x.setLetter(0, bad, true, 0), JobText.BAD);
            Desk.due("loop, k " + bad, x.loop(0, bad, 0), JobText.BAD);
            Desk.due("input, j " + bad, x.input(0, 1, bad, 0), JobText.BAD);
        }
        for (int job = 0; job < 2; job++) {
            Desk.due("operator, what", x.operator(job, 0, 16), JobText.BAD);
            Desk.due("operator, what", x.operator(job, 0, -1), JobText.BAD);
            Desk.due("letter, what", x.letter(job, 0, 5, 0), JobText.BAD);
            Desk.due("letter, what", x.letter(job, 0, -1, 0), JobText.BAD);
            Desk.due("input, what", x.input(job, 1, 0, 2), JobText.BAD);
            Desk.due("input, what", x.input(job, 1, 0, -1), JobText.BAD);
            Desk.due("flow, what", x.flow(job, 0, 4), JobText.BAD);
            Desk.due("flow, what", x.flow(job, 0, -1), JobText.BAD);
            Desk.due("set, what", x.set(job, 0, 3), JobText.BAD);
            Desk.due("set, what", x.set(job, 0, -1), JobText.BAD);
            Desk.due("loop, what", x.loop(job, 0, 2), JobText.BAD);
            Desk.due("loop, what", x.loop(job, 0, -1), JobText.BAD);
        }
        for (int k = -1; k < 2; k++) {
            Desk.due("operator, not read", x.operator(1, k, 0), JobText.STATE);
            Desk.due("letter, not read", x.letter(1, k, 0, 0), JobText.STATE);
            Desk.due("input, not read", x.input(1, k, -1, 0), JobText.STATE);
            Desk.due("flow, not read", x.flow(1, k, 0), JobText.STATE);
            Desk.due("set, not read", x.set(1, k, 0), JobText.STATE);
            Desk.due("setLetter, not read", x.setLetter(1, k, false, 0), JobText.STATE);
            Desk.due("loop, not read", x.loop(1, k, 0), JobText.STATE);
        }
    }

    private static void operators() {
        Desk desk = new Desk();
        desk.mustRead(0, "op o: sink from f, j;\nsource s rate 7 key k par 3 side a, b;\n"
            + "op f: filter from s pass 2/4 par 3;\nop j: join from s.b, s keep 20 side c;\nsource z;", 5);
        //        kind par rate pass keep in sides number file place level position chain readers fused
        Desk.due("o", desk.operator(0, 0), "8 0 0 0 0 0 2 0 0 0 3 2 3 3 0 0");
        Desk.due("s", desk.operator(0, 1), "0 3 7 0 0 0 0 2 1 0 29 0 0 0 3 0");
        Desk.due("f", desk.operator(0, 2), "2 3 0 2 4 0 1 0 2 0 64 1 1 1 1 0");
        Desk.due("j", desk.operator(0, 3), "5 0 0 0 0 20 2 1 3 0 100 1 2 2 1 0");
        Desk.due("z", desk.operator(0, 4), "0 0 0 0 0 0 0 0 4 0 143 0 4 4 0 0");
        desk.mustRead(1, "source z; source q; source f;", 3);
        Desk.due("number of z", desk.x.operator(1, 0, 8), 4);
        Desk.due("number of q", desk.x.operator(1, 1, 8), 5);
        Desk.due("number of f", desk.x.operator(1, 2, 8), 2);
    }

    private static void letters() {
        Desk desk = new Desk();
        desk.mustRead(0, "source az09bcdefghi key kk side x, y1, zzz; op f: filter from az09bcdefghi.y1;"
            + "op m: map from f; source zzzzzzzzzzzz; source z99999999999;", 5);
        Desk.due("own name", desk.name(0, 0, 0), "az09bcdefghi");
        Desk.due("own name", desk.name(0, 3, 0), "zzzzzzzzzzzz");
        Desk.due("own name", desk.name(0, 4, 0), "z99999999999");
        Desk.due("key", desk.name(0, 0, 1), "kk");
        Desk.due("side 0", desk.name(0, 0, 2), "x");
        Desk.due("side 1", desk.name(0, 0, 3), "y1");
        Desk.due("side 2", desk.name(0, 0, 4), "zzz");
        Desk.due("key as its input", desk.name(0, 1, 1), "kk");
        Desk.due("not keyed", desk.x.letter(0, 2, 1, 0), JobText.NONE);
        Desk.due("no such side", desk.x.letter(0, 1, 2, 0), JobText.NONE);
        Desk.due("ahead of a name", desk.x.letter(0, 0, 0, -1), JobText.NONE);
        Desk.due("behind a name", desk.x.letter(0, 0, 0, 12), JobText.NONE);
        // A row that had sides once must not show them when it is used again.
        desk.mustRead(0, "source a;", 1);
        desk.mustRead(0, "source a;", 1);
        Desk.due("no side any more", desk.x.letter(0, 0, 2, 0), JobText.NONE);
        Desk.due("no key any more", desk.x.letter(0, 0, 1, 0), JobText.NONE);
    }

    private static void inputs() {
        Desk desk = new Desk();
        desk.mustRead(0, "op u: union from t.c, s, t.a, t.b; source s; source t side a, b, c;", 3);
        int[] from = {2, 1, 2, 2};
        int[] side = {2, JobText.NONE, 0, 1};
        for (int j = 0; j < 4; j++) {
            Desk.due("input " + j, desk.x.input(0, 0, j, 0), from[j]);
            Desk.due("side of input " + j, desk.x.input(0, 0, j, 1), side[j]);
        }
        Desk.due("input 4", desk.x.input(0, 0, 4, 0), JobText.BAD);
        Desk.due("input of a source", desk.x.input(0, 1, 0, 0), JobText.BAD);
    }

    private static void flows() {
        Desk desk = new Desk();
        desk.mustRead(0, "source s rate 30 key k side x; source t key k; op a: map from s pass 4/6 side y;"
            + "op b: map from a.y pass 0/3 side w; op c: map from b; op d: map from a pass 3/2 side v;"
            + "op e: union from a, a.y, b.w; op f: join from s, t pass 1/3; op g: join from t, s;"
            + "op h: sink from e, f, g, d.v; op i: sink from s.x;", 11);
        String[] want = {"30/1 0/1", "1/1 0/1", "20/1 10/1", "0/1 10/1", "0/1 0/1", "30/1 0/1", "40/1 0/1",
            "1/3 2/3", "1/1 0/1", "124/3 0/1", "0/1 0/1"};
        for (int k = 0; k < want.length; k++) {
            Desk.due("flow of " + desk.name(0, k, 0), desk.flow(0, k), want[k]);
        }
    }

    private static void bigFlows() {
        Desk desk = new Desk();
        // 50000 * 200 * 100 is the greatest number there may be.
        desk.mustRead(0, "source s rate 50000; op a: map from s pass 200/1; op b: map from a pass 100/1;"
            + "source t; op c: union from b, t; op d: map from c pass 0/1 side x; op e: sink from d.x;"
            + "op f: map from b pass 999/998; op g: map from b pass 999/1 side y; op h: sink from g.y;", 10);
        Desk.due("b", desk.flow(0, 2), "1000000000/1 0/1");
        Desk.due("c", desk.flow(0, 4), "-5/-5 -5/-5");
        Desk.due("d", desk.flow(0, 5), "-5/-5 -5/-5");
        Desk.due("e", desk.flow(0, 6), "-5/-5 -5/-5");
        Desk.due("f", desk.flow(0, 7), "-5/-5 0/1");
        Desk.due("g", desk.flow(0, 8), "-5/-5 0/1");
        Desk.due("h", desk.flow(0, 9), "0/1 0/1");
        desk.mustRead(0, "source s; op a: map from s pass 1/999; op b: map from a pass 1/999; op c: map from b pass 1/999;"
            + "op d: map from c pass 1/2; op e: map from d pass 1/2;", 6);
        Desk.due("the lower number", desk.flow(0, 3), "1/997002999 998/997002999");
        Desk.due("the lower number", desk.flow(0, 4), "-5/-5 -5/-5");
        Desk.due("the lower number", desk.flow(0, 5), "-5/-5 -5/-5");
        desk.mustRead(0, "source s rate 99999 key k; op a: map from s pass 999/1; op b: map from a pass 999/1 key k;"
            + "op j: join from s, b; op i: join from s, s; op u: union from s, b, s;", 6);
        Desk.due("the lesser with a big one", desk.flow(0, 3), "-5/-5 -5/-5");
        Desk.due("the lesser", desk.flow(0, 4), "99999/1 0/1");
        Desk.due("added to a big one", desk.flow(0, 5), "-5/-5 -5/-5");
        // The first two are too big together, though all three would be small.
        desk.mustRead(0, "source s; op a: map from s pass 1/997; op b: map from a pass 1/991; op c: map from b pass 1/983;"
            + "op d: map from s pass 1/977; op u: union from c, d;", 6);
        Desk.due("unlike lower numbers", desk.flow(0, 5), "-5/-5 -5/-5");
        desk.mustRead(0, "source s; op a: map from s pass 1/500; op b: map from a pass 1/500; op c: map from b pass 1/500;"
            + "op d: map from c pass 1/8;", 5);
        Desk.due("the greatest lower number", desk.flow(0, 4), "1/1000000000 7/1000000000");
        // 1 / (30907 * 36667) and 4738 / 30907 would together be small again.
        desk.mustRead(0, "source s; op a: map from s pass 1/31; op b: map from a pass 1/997; op c: map from b pass 1/991;"
            + "op d: map from c pass 1/37; source t rate 4738; op e: map from t pass 1/31; op f: map from e pass 1/997;"
            + "op u: union from d, f; op v: union from f, d;", 10);
        Desk.due("a big one", desk.flow(0, 4), "-5/-5 -5/-5");
        Desk.due("a small one", desk.flow(0, 7).replaceAll(" .*", ""), "4738/30907");
        Desk.due("a big one and a small one", desk.flow(0, 8), "-5/-5 -5/-5");
        Desk.due("a small one and a big one", desk.flow(0, 9), "-5/-5 -5/-5");
    }

    private static void dueChains(String text, String want) {
        Desk desk = new Desk();
        int many = desk.readText(0, text);
        StringBuilder row = new StringBuilder();
        for (int k = 0; k < many; k++) {
            row.append(k == 0 ? "" : " ").append(desk.x.operator(0, k, 13));
            row.append(desk.x.operator(0, k, 15) == 1 ? "f" : "");
        }
        row.append(": ").append(desk.x.count(0, 4)).append(" chains, ").append(desk.x.count(0, 5)).append(" tasks, ");
        row.append(desk.x.count(0, 6)).append(" channels");
        Desk.due("chains of " + text, row.toString(), want);
    }

    private static void chains() {
        dueChains("source s; op a: map from s; op b: filter from a; op c: flat from b; op d: sink from c;",
            "0 0f 0f 0f 0f: 1 chains, 1 tasks, 0 channels");
        dueChains("source s par 1; op a: map from s; op b: filter from a par 1;", "0 0f 0f: 1 chains, 1 tasks, 0 channels");
        dueChains("source s; op a: map from s key k;", "0 1: 2 chains, 2 tasks, 1 channels");
        dueChains("source s; op a: map from s par 2; op b: map from a par 2;", "0 1 1f: 2 chains, 3 tasks, 2 channels");
        dueChains("source s; op a: map from s; op b: map from s;", "0 1 2: 3 chains, 3 tasks, 2 channels");
        dueChains("source s side t; op a: map from s; op b: map from s.t;", "0 0f 1: 2 chains, 2 tasks, 1 channels");
        dueChains("source s; op a: sink from s; source t; op b: sink from t, t;", "0 0f 1 2: 3 chains, 3 tasks, 2 channels");
        dueChains("source s key k; op a: span from s; op b: fold from a;", "0 1 2: 3 chains, 3 tasks, 2 channels");
        dueChains("source s; op u: union from s, s; op a: map from u; loop a to u; loop u to u;",
            "0 1 2: 3 chains, 3 tasks, 5 channels");
        dueChains("source s; op u: union from s, s; op a: map from u; loop a to u;", "0 1 1f: 2 chains, 2 tasks, 3 channels");
        dueChains("source s; op u: union from s, s; op a: map from u; op b: map from u; loop u to u;",
            "0 1 2 3: 4 chains, 4 tasks, 5 channels");
        dueChains("op c: map from b; op b: map from s key k; source s; source t;", "1f 1 0 2: 3 chains, 3 tasks, 1 channels");
    }

    private static void channels() {
        dueChains("source s par 3; op u: union from s, s par 3;", "0 1: 2 chains, 6 tasks, 6 channels");
        dueChains("source s par 3 key k; op u: union from s, s par 3;", "0 1: 2 chains, 6 tasks, 18 channels");
        dueChains("source s par 3; op u: union from s, s par 2;", "0 1: 2 chains, 5 tasks, 12 channels");
        dueChains("source s par 64 key k; op f: filter from s par 64;", "0 0f: 1 chains, 64 tasks, 0 channels");
        dueChains("source s par 64 key k; op u: union from s, s par 64; loop u to u;",
            "0 1: 2 chains, 128 tasks, 12288 channels");
    }

    private static void setsAndLoops() {
        Desk desk = new Desk();
        desk.putFile(4, "  set b2 = xy;");
        desk.mustRead(0, "set a=99999; use 4; set zero = 0; source s; op u: union from s, s; op v: union from u, s;"
            + "loop v to u; loop u to u;", 3);
        Desk.due("number of a", desk.x.set(0, 0, 0), 99999);
        Desk.due("number of b2", desk.x.set(0, 1, 0), JobText.NONE);
        Desk.due("number of zero", desk.x.set(0, 2, 0), 0);
        Desk.due("file of b2", desk.x.set(0, 1, 1), 4);
        Desk.due("place of b2", desk.x.set(0, 1, 2), 6);
        Desk.due("file of zero", desk.x.set(0, 2, 1), 0);
        Desk.due("place of zero", desk.x.set(0, 2, 2), 24);
        Desk.due("set 3", desk.x.set(0, 3, 0), JobText.BAD);
        Desk.due("name", Desk.text(i -> desk.x.setLetter(0, 1, false, i)), "b2");
        Desk.due("what it is", Desk.text(i -> desk.x.setLetter(0, 1, true, i)), "xy");
        Desk.due("a number has no letters", desk.x.setLetter(0, 0, true, 0), JobText.NONE);
        Desk.due("ahead of a name", desk.x.setLetter(0, 1, true, -1), JobText.NONE);
        Desk.due("behind a name", desk.x.setLetter(0, 1, true, 2), JobText.NONE);
        Desk.due("setLetter of set 3", desk.x.setLetter(0, 3, false, 0), JobText.BAD);
        Desk.due("loop 0", desk.x.loop(0, 0, 0), 2);
        Desk.due("loop 0", desk.x.loop(0, 0, 1), 1);
        Desk.due("loop 1", desk.x.loop(0, 1, 0), 1);
        Desk.due("loop 1", desk.x.loop(0, 1, 1), 1);
        Desk.due("loop 2", desk.x.loop(0, 2, 1), JobText.BAD);
    }

    private static void rowsUsedAgain() {
        Desk desk = new Desk();
        String rich = "# c\nset a = b; source s par 3 rate 7 key k side x, y; op b: span from s par 2 pass 3/4 keep 5 side z;"
            + "op u: union from b, b.z key l; op c: sink from u, s.x; loop u to u;";
        for (int i = 0; i < 3; i++) {
            desk.mustRead(i % 2, rich, 4);
        }
        for (int i = 0; i < 3; i++) {
            desk.mustRead(i % 2, "set a = 1; source s; op b: map from s; op u: flat from b; op c: map from u;", 4);
            dueCounts(desk, i % 2, "4 1 0 0 1 1 0 4");
            Desk.due("s", desk.operator(i % 2, 0), "0 0 0 0 0 0 0 0 0 0 18 0 0 0 1 0");
            Desk.due("b", desk.operator(i % 2, 1), "1 0 0 0 0 0 1 0 1 0 24 1 1 0 1 1");
            Desk.due("u", desk.operator(i % 2, 2), "3 0 0 0 0 0 1 0 2 0 42 2 2 0 1 1");
            Desk.due("c", desk.operator(i % 2, 3), "1 0 0 0 0 0 1 0 3 0 61 3 3 0 0 1");
            Desk.due("c's flow", desk.flow(i % 2, 3), "1/1 0/1");
            Desk.due("u's key", desk.x.letter(i % 2, 2, 1, 0), JobText.NONE);
            Desk.due("b's side", desk.x.letter(i % 2, 1, 2, 0), JobText.NONE);
            Desk.due("b's input", desk.x.input(i % 2, 1, 0, 1), JobText.NONE);
            Desk.due("the set", desk.x.set(i % 2, 0, 0), 1);
        }
        desk.mustRead(0, "", 0);
        dueCounts(desk, 0, "0 0 0 0 0 0 0 0");
    }
}
