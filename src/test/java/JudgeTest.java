/** Promises 6 and 8: the faults of a text that was read to its end. */
public final class JudgeTest {
    public static void main(String[] args) {
        inputs();
        inputCounts();
        loops();
        cycles();
        loopsBack();
        keys();
        otherFiles();
        Desk.end();
    }

    private static void inputs() {
        Desk desk = new Desk();
        desk.mustFail(7, "op a: map from ^b;");
        desk.mustFail(7, "source s; op a: union from s, ^b.c;");
        desk.mustFail(8, "source s side a, b; op a: union from s.b, s.^c;");
        desk.mustFail(8, "source s; op a: map from s.^s;");
        desk.mustFail(9, "source s; op a: sink from s; op b: map from ^a;");
        desk.mustFail(8, "source s; op a: sink from s; op b: map from a.^x;");
        desk.mustFail(7, "source s; op a: join from s, s, s, ^t; op b: map from t;");
        desk.mustRead(0, "op a: map from s; source s;", 2);
        desk.mustFail(10, "source s; op a: ^join from s; op b: map from t;");
    }

    private static void inputCounts() {
        Desk desk = new Desk();
        for (String kind : "map filter flat span fold".split(" ")) {
            desk.mustRead(0, "source s key k; op a: " + kind + " from s;", 2);
            desk.mustFail(10, "source s key k; op a: ^" + kind + " from s, s;");
        }
        desk.mustFail(10, "source s key k; op a: ^join from s;");
        desk.mustRead(0, "source s key k; op a: join from s, s;", 2);
        desk.mustFail(10, "source s key k; op a: ^join from s, s, s;");
        desk.mustFail(10, "source s; op a: ^union from s;");
        desk.mustRead(0, "source s; op a: union from s, s, s, s;", 2);
        desk.mustRead(0, "source s; op a: sink from s;", 2);
        desk.mustRead(0, "source s; op a: sink from s, s, s, s;", 2);
    }

    private static void loops() {
        Desk desk = new Desk();
        String job = "source s; op u: union from s, s; op m: map from u; op o: sink from m; ";
        desk.mustRead(0, job + "loop m to u;", 4);
        desk.mustFail(7, job + "loop ^x to y;");
        desk.mustFail(7, job + "loop m to ^y;");
        desk.mustFail(7, job + "loop o to ^y;");
        desk.mustFail(9, job + "loop ^o to s;");
        desk.mustFail(9, job + "loop ^o to u;");
        desk.mustFail(12, job + "loop m to ^s;");
        desk.mustFail(12, job + "loop m to ^m;");
        desk.mustFail(7, "loop ^m to u;");
        desk.mustFail(10, "loop x to y; source s; op m: ^map from s, s;");
    }

    private static void cycles() {
        Desk desk = new Desk();
        desk.mustFail(13, "op ^a: map from a;");
        desk.mustFail(13, "source s; op x: map from a; op ^a: union from s, b; op b: map from a;");
        desk.mustFail(13, "op ^a: map from c; op b: map from a; op c: map from b;");
        desk.mustFail(13, "source s side t; op x: map from y; op ^y: map from z side t; op z: map from y.t;");
        desk.mustFail(12, "op a: map from a; loop a to ^a;");
    }

    private static void loopsBack() {
        Desk desk = new Desk();
        String job = "source s; op u: union from s, s; op m: map from u side t; op v: union from m.t, s; ";
        desk.mustRead(0, job + "loop u to u; loop m to u; loop v to u; loop v to v;", 4);
        desk.mustFail(14, job + "loop ^m to v;");
        desk.mustRead(0, "op m: map from u; op u: union from s, s; op n: map from m; source s; loop n to u;", 4);
        desk.mustFail(14, job + "loop u to u; loop ^s to u;");
        desk.mustFail(14, job + "op j: fold from s; loop ^u to v;");
        desk.mustFail(13, "op ^a: map from a; source s; op u: union from s, s; loop s to u;");
    }

    private static void keys() {
        Desk desk = new Desk();
        desk.mustFail(15, "source s; op a: ^span from s;");
        desk.mustFail(15, "source s; op a: ^fold from s;");
        desk.mustFail(15, "source s key k; source t; op a: ^join from s, t;");
        desk.mustFail(15, "source s key k; source t; op a: ^join from t, s;");
        desk.mustFail(15, "source s key k; source t key l; op a: ^join from s, t;");
        desk.mustFail(15, "source s; source t; op a: ^join from s, t;");
        desk.mustRead(0, "source s key k; source t key k; op a: join from s, t; op b: fold from a;", 4);
        desk.mustFail(15, "source s key k; op m: map from s; op a: ^fold from m;");
        desk.mustFail(15, "source s key k; op m: flat from s; op a: ^fold from m;");
        desk.mustRead(0, "source s; op m: map from s key k; op a: fold from m;", 3);
        desk.mustRead(0, "source s key k; op m: filter from s; op a: fold from m;", 3);
        desk.mustRead(0, "source s key k side t; op m: filter from s.t side x; op a: span from m.x side y; op b: fold from a.y;",
            4);
        desk.mustRead(0, "source s key k; source t key k; op u: union from s, t, s; op a: fold from u;", 4);
        desk.mustFail(15, "source s key k; source t key l; op u: union from s, t; op a: ^fold from u;");
        desk.mustFail(15, "source s key k; source t; op u: union from s, t; op a: ^fold from u;");
        desk.mustRead(0, "source s; source t; op u: union from s, t key k; op a: fold from u;", 4);
        // By the layout the second fold stands ahead of the first one.
        desk.mustFail(15, "source s; op a: fold from m; op b: ^fold from s; op m: map from s;");
    }

    private static void otherFiles() {
        Desk desk = new Desk();
        desk.putFile(3, "source s; op a: map from\nb;");
        Desk.due("a fault in a file used", desk.readText(0, "use 3; source c;"), -17);
        desk.dueFault("a fault in a file used", 7, 3, 25, 0);
        desk.putFile(3, "loop m to m;");
        Desk.due("a loop in a file used", desk.readText(0, "source s; op m: map from s; use 3;"), -22);
        desk.dueFault("a loop in a file used", 12, 3, 10, 0);
        desk.mustRead(0, "source s; use 2;", 1);
    }
}
