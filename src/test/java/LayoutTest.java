/** The boundaries that terms 3 and 4 name: what is judged in which order, the layout, keys, flows, chains. */
public final class LayoutTest {
    public static void main(String[] args) {
        judgedInOrder();
        judgedLoops();
        howManyInputs();
        cycles();
        loopsBack();
        wantedKeys();
        deepLayouts();
        layoutAsTold();
        keysByKind();
        keysOfUnions();
        uppersUpToTheGreatest();
        lowersUpToTheGreatest();
        whatComesToJoins();
        addedOneByOne();
        passAndSides();
        fusedByKind();
        fusedByReaders();
        fusedByPar();
        channels();
        mostTasksAndChannels();
        Desk.end();
    }

    /** The text is read, and this is what one row of its operators answers. */
    private static Desk laidOut(String text, int operators) {
        Desk desk = new Desk();
        desk.mustRead(0, text, operators);
        return desk;
    }

    private static String row(Desk desk, int what) {
        StringBuilder row = new StringBuilder();
        for (int k = 0; k < desk.x.count(0, 0); k++) {
            row.append(k == 0 ? "" : " ").append(desk.x.operator(0, k, what));
        }
        return row.toString();
    }

    private static String keys(Desk desk) {
        StringBuilder row = new StringBuilder();
        for (int k = 0; k < desk.x.count(0, 0); k++) {
            String key = desk.name(0, k, 1);
            row.append(k == 0 ? "" : " ").append(key.isEmpty() ? "-" : key);
        }
        return row.toString();
    }

    private static void dueFlow(Desk desk, String name, String want) {
        for (int k = 0; k < desk.x.count(0, 0); k++) {
            if (desk.name(0, k, 0).equals(name)) {
                Desk.due("flow of " + name, desk.flow(0, k), want);
                return;
            }
        }
        Desk.due("an operator " + name, 0, 1);
    }

    // "for each operator, as told: for each INPUT: 7 ..; 8 ..; 9 ... Then 10"
    private static void judgedInOrder() {
        Desk desk = new Desk();
        String start = "source s side x; op o: sink from s; ";
        desk.mustFail(9, start + "op a: map from ^o, none;");
        desk.mustFail(7, start + "op a: map from ^none, o;");
        desk.mustFail(8, start + "op a: map from s.^y, none;");
        desk.mustFail(7, start + "op a: map from s.x, ^none.x;");
        desk.mustFail(8, start + "op a: map from o.^x;");
        desk.mustFail(8, start + "op a: map from s.^o;");
        desk.mustFail(10, start + "op a: ^map from s, s.x; op b: map from none;");
        desk.mustFail(7, start + "op a: map from s; op b: map from ^none; op c: map from s, s;");
        desk.mustFail(7, "op a: map from s, ^none; loop none to none; source s;");
        desk.mustFail(10, "op a: ^fold from s, s; op b: map from b; source s;");
        desk.mustFail(7, "op a: union from s, s, s, ^none; source s;");
        desk.mustFail(9, "op a: union from s, s, s, ^o; source s; op o: sink from s;");
    }

    // "For each loop: 7 either N is no operator; 9 ..; 12 .." and behind the operators, ahead of 13
    private static void judgedLoops() {
        Desk desk = new Desk();
        String start = "source s; op u: union from s, s; op o: sink from u; ";
        desk.mustFail(7, start + "loop ^none to none;");
        desk.mustFail(7, start + "loop u to ^none;");
        desk.mustFail(7, start + "loop ^none to u;");
        desk.mustFail(9, start + "loop ^o to o;");
        desk.mustFail(9, start + "loop ^o to s; loop none to u;");
        desk.mustFail(12, start + "loop s to ^s; loop none to u;");
        desk.mustFail(12, start + "loop u to ^o;");
        desk.mustFail(7, start + "loop s to u; loop u to ^none;");
        desk.mustFail(12, start + "op c: map from c; loop u to ^c;");
        desk.mustFail(7, "loop s to ^u; source s;");
    }

    // "10 (at the KIND): a join has not two INPUTS, a union fewer than two, others but sinks not just one."
    private static void howManyInputs() {
        String[] kinds = {"map", "1", "filter", "1", "flat", "1", "span", "1", "join", "2", "union", "234", "fold", "1",
            "sink", "1234"};
        for (int i = 0; i < kinds.length; i += 2) {
            for (int many = 1; many <= 4; many++) {
                String ahead = "source s key k; op a: ";
                String behind = kinds[i] + " from s" + ", s".repeat(many - 1) + ";";
                Desk desk = new Desk();
                if (kinds[i + 1].indexOf('0' + many) >= 0) {
                    desk.mustRead(0, ahead + behind, 2);
                    Desk.due("its inputs", desk.x.operator(0, 1, 6), many);
                } else {
                    desk.mustFail(10, ahead + "^" + behind);
                }
            }
        }
    }

    private static String chain(int many, String last) {
        StringBuilder text = new StringBuilder(last);
        for (int i = 1; i < many; i++) {
            text.append("op a").append(i).append(": map from a").append(i - 1).append(";");
        }
        return text.toString();
    }

    // "13 (at its N) the first operator from which one comes to itself, by INPUTS (loops are none)."
    private static void cycles() {
        Desk desk = new Desk();
        desk.mustFail(13, "op ^a: map from a;");
        desk.mustFail(13, "op ^a: union from a, a;");
        desk.mustFail(13, "op ^a: map from b; op b: map from a;");
        desk.mustFail(13, chain(40, "op ^a0: map from a39;"));
        desk.mustFail(13, "op x: map from b; op y: sink from x; op ^b: map from c; op c: map from b;");
        desk.mustFail(13, "source s; op x: union from s, c; op ^b: map from c; op c: map from b;");
        desk.mustFail(13, "op ^a: map from a.x side x;");
        desk.mustRead(0, "source s; op u: union from s, s; op m: map from u; loop m to u;", 3);
        desk.mustRead(0, chain(40, "source a0;"), 40);
    }

    // "14 (at the first N) a loop whose second operator is not its first one, nor one from which that comes"
    private static void loopsBack() {
        Desk desk = new Desk();
        String start = "source s; op u: union from s, s; op m: map from u side x; op v: union from m.x, s; op n: map from v; ";
        desk.mustRead(0, start + "loop u to u;", 5);
        desk.mustRead(0, start + "loop m to u;", 5);
        desk.mustRead(0, start + "loop n to u;", 5);
        desk.mustFail(14, start + "loop ^s to u;");
        desk.mustFail(14, start + "loop ^u to v;");
        desk.mustFail(14, start + "loop ^m to v;");
        desk.mustFail(14, start + "loop n to v; loop ^m to v; loop s to u;");
        desk.mustFail(13, start + "op ^c: map from c; loop s to u;");
        desk.mustFail(14, start + "loop ^s to u; op f: fold from s;");
        String deep = "source s; op a0: union from s, s;" + chain(39, "") + "loop a38 to a0;";
        desk.mustRead(0, deep, 40);
    }

    // "15 (at the KIND): a span, join, fold with an INPUT that is not KEYED, or (join) two that are by unlike NAMES."
    private static void wantedKeys() {
        Desk desk = new Desk();
        String start = "source s; source k key k side x; source l key l; ";
        for (String kind : "span fold".split(" ")) {
            desk.mustFail(15, start + "op a: ^" + kind + " from s;");
            desk.mustRead(0, start + "op a: " + kind + " from k;", 4);
            desk.mustRead(0, start + "op a: " + kind + " from k.x;", 4);
        }
        String[] pairs = {"s, s", "s, k", "k, s", "k, l", "l, k", "k, k", "k, k.x"};
        for (int i = 0; i < pairs.length; i++) {
            if (i < 5) {
                desk.mustFail(15, start + "op a: ^join from " + pairs[i] + ";");
            } else {
                desk.mustRead(0, start + "op a: join from " + pairs[i] + ";", 4);
            }
        }
        desk = new Desk();
        desk.mustFail(15, "op a: fold from m; op b: ^span from s; source s; op m: map from s;");
        desk.mustFail(15, "op a: ^fold from m; source s; op m: map from s; op b: span from s;");
        desk.mustFail(15, "op a: ^fold from s; source s; op b: span from s;");
    }

    // "LEVEL: 0 of a source, else 1 more than the greatest of its INPUTS", LEVELS "0 without operators"
    private static void deepLayouts() {
        Desk desk = laidOut("", 0);
        Desk.due("levels of nothing", desk.x.count(0, 7), 0);
        desk = laidOut("source a; source b;", 2);
        Desk.due("levels of sources", desk.x.count(0, 7), 1);
        desk = laidOut(chain(40, "source a0;"), 40);
        Desk.due("levels of a chain", desk.x.count(0, 7), 40);
        Desk.due("the last level", desk.x.operator(0, 39, 11), 39);
        Desk.due("the last place", desk.x.operator(0, 39, 12), 39);
        Desk.due("one chain", desk.x.count(0, 4), 1);
        StringBuilder backwards = new StringBuilder();
        for (int i = 39; i > 0; i--) {
            backwards.append("op a").append(i).append(": map from a").append(i - 1).append(";");
        }
        desk = laidOut(backwards + "source a0;", 40);
        Desk.due("levels backwards", desk.x.count(0, 7), 40);
        for (int k = 0; k < 40; k++) {
            Desk.due("level backwards", desk.x.operator(0, k, 11), 39 - k);
            Desk.due("place backwards", desk.x.operator(0, k, 12), 39 - k);
        }
        desk = laidOut("source s; op a: map from s; op b: map from a; op u: union from b, s; op v: union from s, b; op w: sink "
            + "from s, s, s, v;", 6);
        Desk.due("levels", row(desk, 11), "0 1 2 3 3 4");
    }

    // "again and again the first operator, as told, that does not stand in it and whose INPUTS all do"
    private static void layoutAsTold() {
        Desk desk = laidOut("op c: map from b; op b: map from t; source s; op d: map from s; source t; op e: union from t, c;", 6);
        Desk.due("places", row(desk, 12), "4 3 0 1 2 5");
        desk = laidOut("op u: union from s, t; source s; op a: map from s; source t; op b: map from u;", 5);
        Desk.due("places", row(desk, 12), "3 0 1 2 4");
        Desk.due("chains", row(desk, 13), "3 0 1 2 3");
        Desk.due("levels", row(desk, 11), "1 0 1 0 2");
    }

    // "without one: a filter's, span's, fold's, join's as its (first) INPUT; ..; others are not KEYED"
    private static void keysByKind() {
        String start = "source s key k side x; source t; ";
        Desk desk = laidOut(start + "op a: map from s; op b: filter from s; op c: flat from s; op d: span from s; op e: join from s, s;"
            + "op f: union from s, s; op g: fold from s; op h: sink from s;", 10);
        Desk.due("keys", keys(desk), "k - - k - k k k k -");
        desk = laidOut(start + "op a: map from s key l; op b: filter from s key l; op c: flat from s key l; op f: union from s, s key l;"
            + "op i: filter from t key l; op j: filter from t; op n: filter from s.x; op o: filter from b side y;"
            + "op p: fold from o.y; op q: span from a;", 12);
        Desk.due("keys", keys(desk), "k - l l l l l - k l l l");
        desk = laidOut("op b: filter from a; op a: filter from s; source s key aaaaaaaaaaaa;", 3);
        Desk.due("keys", keys(desk), "aaaaaaaaaaaa aaaaaaaaaaaa aaaaaaaaaaaa");
    }

    // "a union's, if all its INPUTS are by one NAME, by that"
    private static void keysOfUnions() {
        Desk desk = laidOut("source s key k; source l key l; source t; op a: union from s, s, s, s; op b: union from s, s, s, l;"
            + "op c: union from l, s; op d: union from s, t; op e: union from t, s; op f: union from t, t; op g: union from a, s;"
            + "op h: union from s, b; op i: union from s, t key m;", 12);
        Desk.due("keys", keys(desk), "k l - k - - - - - k - m");
        desk = laidOut("source s key k; op u: union from s, s; op m: map from u; loop m to u;", 3);
        Desk.due("loops are none", keys(desk), "k k -");
    }

    // "the numbers of which are 1000000000 at most; one that would have a greater one is BIG"
    private static void uppersUpToTheGreatest() {
        String start = "source s rate 50000; op a: map from s pass 200/1; op b: map from a pass 100/1; ";
        Desk desk = laidOut(start + "op c: map from b pass 999/999; op d: map from b pass 998/999 side x; op e: map from b pass 1/2;"
            + "op f: map from b pass 2/1; op g: map from b pass 0/1 side x; op h: map from f pass 1/2; op i: map from f pass 0/1 side x;"
            + "op j: sink from i; op k: sink from i.x; op l: map from h pass 1/999;", 13);
        dueFlow(desk, "b", "1000000000/1 0/1");
        dueFlow(desk, "c", "1000000000/1 0/1");
        dueFlow(desk, "d", "-5/-5 1000000000/999");
        dueFlow(desk, "e", "500000000/1 500000000/1");
        dueFlow(desk, "f", "-5/-5 0/1");
        dueFlow(desk, "g", "0/1 1000000000/1");
        dueFlow(desk, "h", "-5/-5 -5/-5");
        dueFlow(desk, "i", "-5/-5 -5/-5");
        dueFlow(desk, "j", "-5/-5 -5/-5");
        dueFlow(desk, "k", "-5/-5 -5/-5");
        dueFlow(desk, "l", "-5/-5 -5/-5");
        desk = laidOut(start + "source t; op c: map from t pass 1/2; op u: union from b, t; op v: union from b, c; op w: union from e, e;"
            + "op e: map from b pass 1/2; op f: union from e, e, t; op g: union from e, g0; op g0: map from e pass 998/999;", 12);
        dueFlow(desk, "u", "-5/-5 -5/-5");
        dueFlow(desk, "v", "-5/-5 -5/-5");
        dueFlow(desk, "w", "1000000000/1 0/1");
        dueFlow(desk, "f", "-5/-5 -5/-5");
        dueFlow(desk, "g", "-5/-5 -5/-5");
    }

    private static void lowersUpToTheGreatest() {
        String start = "source s; op a: map from s pass 1/500; op b: map from a pass 1/500; op c: map from b pass 1/500; ";
        Desk desk = laidOut(start + "op d: map from c pass 1/8 side x; op e: map from d pass 1/2; op f: map from d pass 2/1;"
            + "op g: map from d pass 0/999 side y; op h: union from d, d.x; op i: map from c pass 1/9; op j: map from i pass 9/1;"
            + "op k: sink from g, g.y; op l: map from d pass 999/999;", 13);
        dueFlow(desk, "d", "1/1000000000 7/1000000000");
        dueFlow(desk, "e", "-5/-5 -5/-5");
        dueFlow(desk, "f", "1/500000000 0/1");
        dueFlow(desk, "g", "0/1 1/1000000000");
        dueFlow(desk, "h", "1/125000000 0/1");
        dueFlow(desk, "i", "-5/-5 1/140625000");
        dueFlow(desk, "j", "-5/-5 -5/-5");
        dueFlow(desk, "k", "1/1000000000 0/1");
        dueFlow(desk, "l", "1/1000000000 0/1");
    }

    // "to a join the lesser FLOW of both INPUTS"; the products compared are far beyond 32 bits
    private static void whatComesToJoins() {
        String great = "source s rate 50000; op a: map from s pass 200/1; op b: map from a pass 100/1 key k; ";
        String small = "source t; op c: map from t pass 1/500; op d: map from c pass 1/500; op e: map from d pass 1/500;"
            + "op f: map from e pass 1/8 key k; ";
        Desk desk = laidOut(great + small + "op i: join from b, f; op j: join from f, b; op l: join from b, b; op m: join from f, f;"
            + "op g: map from b pass 2/1 key k; op n: join from f, g; op o: join from g, f; op p: join from g, g;", 16);
        dueFlow(desk, "i", "1/1000000000 0/1");
        dueFlow(desk, "j", "1/1000000000 0/1");
        dueFlow(desk, "l", "1000000000/1 0/1");
        dueFlow(desk, "m", "1/1000000000 0/1");
        dueFlow(desk, "n", "-5/-5 -5/-5");
        dueFlow(desk, "o", "-5/-5 -5/-5");
        dueFlow(desk, "p", "-5/-5 -5/-5");
        desk = laidOut("source s key k; op a: map from s pass 1/3 key k; op b: map from s pass 333/998 key k; op z: map from s pass 0/5 key k;"
            + "op c: join from a, b; op d: join from b, a; op e: join from s, z; op f: join from z, s pass 3/1; op g: join from s, a pass 1/2;", 9);
        dueFlow(desk, "c", "1/3 0/1");
        dueFlow(desk, "d", "1/3 0/1");
        dueFlow(desk, "e", "0/1 0/1");
        dueFlow(desk, "f", "0/1 0/1");
        dueFlow(desk, "g", "1/6 1/6");
    }

    // "to others those of the INPUTS, added in order, one by one"
    private static void addedOneByOne() {
        // 1 / (997 * 991) and 1 / (983 * 977) are too big together; with one of them twice, too.
        String start = "source s; op a: map from s pass 1/997; op b: map from a pass 1/991; op c: map from s pass 1/983;"
            + "op d: map from c pass 1/977; ";
        Desk desk = laidOut(start + "op u: union from b, d; op v: union from b, b, d, b; op w: union from b, b; op x: sink from b, d;"
            + "op y: sink from a, b, s;", 10);
        dueFlow(desk, "u", "-5/-5 -5/-5");
        dueFlow(desk, "v", "-5/-5 -5/-5");
        dueFlow(desk, "w", "2/988027 0/1");
        dueFlow(desk, "x", "-5/-5 -5/-5");
        dueFlow(desk, "y", "989019/988027 0/1");
        desk = laidOut("source s rate 30 side x; op a: map from s pass 1/3 side y; op u: union from s, a.y, a, s.x;"
            + "op v: union from s.x, s.x; op o: sink from s.x;", 5);
        dueFlow(desk, "u", "60/1 0/1");
        dueFlow(desk, "v", "0/1 0/1");
        dueFlow(desk, "o", "0/1 0/1");
        desk = laidOut("source s; op u: union from s, s; op m: map from u; loop m to u; loop u to u;", 3);
        dueFlow(desk, "u", "2/1 0/1");
    }

    // "times (b - a) / b, or 0, if a is not less than b"; "its rate (1, if not told)"
    private static void passAndSides() {
        Desk desk = laidOut("source s; source t rate 1; source u rate 99999; op a: map from u pass 998/999 side x;"
            + "op b: map from u pass 999/999 side x; op c: map from u pass 999/998 side x; op d: map from u pass 0/1 side x;"
            + "op e: map from u side x; op f: map from u pass 2/6; op g: map from u pass 999/1;", 10);
        dueFlow(desk, "s", "1/1 0/1");
        dueFlow(desk, "t", "1/1 0/1");
        dueFlow(desk, "u", "99999/1 0/1");
        dueFlow(desk, "a", "11088778/111 11111/111");
        dueFlow(desk, "b", "99999/1 0/1");
        dueFlow(desk, "c", "99899001/998 0/1");
        dueFlow(desk, "d", "0/1 99999/1");
        dueFlow(desk, "e", "99999/1 0/1");
        dueFlow(desk, "f", "33333/1 66666/1");
        dueFlow(desk, "g", "99899001/1 0/1");
    }

    private static void dueChains(String text, int operators, String fused, String chains) {
        Desk desk = laidOut(text, operators);
        Desk.due("fused in " + text, row(desk, 15), fused);
        Desk.due("chains of " + text, row(desk, 13), chains);
    }

    // "FUSED is a map, filter, flat, sink without key that has one INPUT"
    private static void fusedByKind() {
        for (String kind : KINDS) {
            boolean fused = "map filter flat sink".contains(kind);
            dueChains("source s key k; op a: " + kind + " from s;", 2, fused ? "0 1" : "0 0", fused ? "0 0" : "0 1");
        }
        for (String kind : "map filter flat".split(" ")) {
            dueChains("source s key k; op a: " + kind + " from s key k;", 2, "0 0", "0 1");
        }
        dueChains("source s key k; source t key k; op j: join from s, t; op u: union from j, t;", 4, "0 0 0 0", "0 1 2 3");
        dueChains("source s; source t; op a: sink from s, t;", 3, "0 0 0", "0 1 2");
        dueChains("source s key k; op j: span from s; op m: map from j; op n: sink from m;", 4, "0 0 1 1", "0 1 1 1");
    }

    private static final String[] KINDS = {"map", "filter", "flat", "span", "fold", "sink"};

    // "the main stream of an operator that has no other reader there (INPUTS, loops)"
    private static void fusedByReaders() {
        dueChains("source s; op a: map from s; op b: map from s;", 3, "0 0 0", "0 1 2");
        dueChains("source s side x; op a: map from s; op b: map from s.x; op c: map from s.x;", 4, "0 1 0 0", "0 0 1 2");
        dueChains("source s side x; op a: map from s.x;", 2, "0 0", "0 1");
        dueChains("source s; op u: union from s, s; op a: map from u;", 3, "0 0 1", "0 1 1");
        dueChains("source s; op u: union from s, s; op a: map from u; loop u to u;", 3, "0 0 0", "0 1 2");
        dueChains("source s; op u: union from s, s; op a: map from u; op b: map from a; loop a to u;", 4, "0 0 1 0", "0 1 1 2");
        Desk desk = laidOut("source s side x; op u: union from s, s, s.x, s.x; op a: map from u; op o: sink from a; loop a to u;"
            + "loop a to u;", 4);
        Desk.due("readers", row(desk, 14), "4 1 3 0");
    }

    // "and is of its par (1, if not told)"
    private static void fusedByPar() {
        dueChains("source s; op a: map from s par 1; op b: map from a;", 3, "0 1 1", "0 0 0");
        dueChains("source s par 64; op a: map from s par 64; op b: map from a par 63;", 3, "0 1 0", "0 0 1");
        dueChains("source s par 2; op a: map from s;", 2, "0 0", "0 1");
        dueChains("source s; op a: map from s par 2;", 2, "0 0", "0 1");
        Desk desk = laidOut("source s par 64; op a: map from s par 64; op b: map from a par 63; source t;", 4);
        Desk.due("chains", desk.x.count(0, 4), 3);
        Desk.due("tasks", desk.x.count(0, 5), 128);
    }

    private static void dueChannels(String text, int want) {
        Desk desk = new Desk();
        desk.readText(0, text);
        Desk.due("channels of " + text, desk.x.count(0, 6), want);
    }

    // "par of y, if that is x's and y is not KEYED, else par of y times par of x"
    private static void channels() {
        dueChannels("", 0);
        dueChannels("source s par 9;", 0);
        dueChannels("source s; op a: map from s;", 0);
        dueChannels("source s par 1; op a: map from s key k;", 1);
        dueChannels("source s par 5; op a: map from s key k par 5;", 5);
        dueChannels("source s par 5; op a: map from s key k;", 5);
        dueChannels("source s; op a: map from s key k par 5;", 5);
        dueChannels("source s par 5 key k; op a: map from s key k par 5;", 25);
        dueChannels("source s par 5 key k side x; op a: map from s.x par 5;", 25);
        dueChannels("source s par 5 side x; op a: map from s.x par 5;", 5);
        dueChannels("source s par 3; source t par 4 key k; op o: sink from s, t, s, t par 3;", 3 + 12 + 3 + 12);
        dueChannels("source s; op u: union from s, s par 3; op m: map from u par 4; loop m to u; loop u to u;", 6 + 12 + 12 + 3);
        dueChannels("source s key k; op u: union from s, s par 3; loop u to u;", 6 + 9);
        dueChannels("op u: union from s, t par 3; source s par 3; source t par 2;", 3 + 6);
    }

    private static void mostTasksAndChannels() {
        Desk desk = new Desk();
        desk.putFile(1, "source s par 64 key k;" + unions(1, 20));
        desk.putFile(2, unions(21, 39));
        desk.mustRead(0, "use 1; use 2;" + "loop a1 to a1;".repeat(8), 40);
        Desk.due("chains", desk.x.count(0, 4), 40);
        Desk.due("tasks", desk.x.count(0, 5), 2560);
        Desk.due("channels", desk.x.count(0, 6), (39 * 4 + 8) * 4096);
        Desk.due("readers of s", desk.x.operator(0, 0, 14), 39 * 4);
        Desk.due("readers of a1", desk.x.operator(0, 1, 14), 8);
    }

    private static String unions(int from, int to) {
        StringBuilder text = new StringBuilder();
        for (int i = from; i <= to; i++) {
            text.append("op a").append(i).append(": union from s, s, s, s par 64;");
        }
        return text.toString();
    }
}
