/** Promises 6 to 8: read, drop, fault, with the faults that are met on the way. */
public final class ReadTest {
    public static void main(String[] args) {
        refusals();
        wrongTokens();
        expected();
        bounds();
        tooMany();
        tooManyComments();
        toldTwice();
        uses();
        faultsInOrder();
        Desk.end();
    }

    private static void refusals() {
        Desk desk = new Desk();
        desk.mustFail(1, "^;");
        Desk.due("read(2, 0)", desk.x.read(2, 0), JobText.BAD);
        Desk.due("read(-1, 0)", desk.x.read(-1, 0), JobText.BAD);
        Desk.due("read(0, 6)", desk.x.read(0, 6), JobText.BAD);
        Desk.due("read(0, -1)", desk.x.read(0, -1), JobText.BAD);
        Desk.due("fault(0) behind BAD", desk.x.fault(0), 1);
        Desk.due("fault(4)", desk.x.fault(4), JobText.BAD);
        Desk.due("fault(-1)", desk.x.fault(-1), JobText.BAD);
        Desk.due("drop(0) of what had a fault", desk.x.drop(0), JobText.STATE);
        desk.mustRead(0, "source a;", 1);
        desk.mustFail(1, "source a; source b^");
        Desk.due("the job stays", desk.printed(0), "source a;\n");
        Desk.due("numbers stay", desk.x.numbers(), 1);
        Desk.due("drop(2)", desk.x.drop(2), JobText.BAD);
        Desk.due("drop(-1)", desk.x.drop(-1), JobText.BAD);
        Desk.due("drop(1)", desk.x.drop(1), JobText.STATE);
        Desk.due("drop(0)", desk.x.drop(0), 1);
        Desk.due("drop(0) again", desk.x.drop(0), JobText.STATE);
        Desk.due("count(0, 0) of what was dropped", desk.x.count(0, 0), JobText.STATE);
        Desk.due("read(1, 3) of an empty file", desk.x.read(1, 3), 0);
        Desk.due("count(1, 0)", desk.x.count(1, 0), 0);
    }

    private static void wrongTokens() {
        Desk desk = new Desk();
        desk.mustRead(0, "source abcdefghijkl;", 1);
        desk.mustExpect("source ^abcdefghijklm;", "N");
        desk.mustRead(0, "source a1b2;", 1);
        desk.mustExpect("source ^A;", "N");
        desk.mustExpect("source a^B;", "; par rate key side");
        desk.mustExpect("source ^1a;", "N");
        desk.mustRead(0, "set a = 99999;", 0);
        desk.mustExpect("set a = ^100000;", "N M");
        desk.mustRead(0, "set a = 0;", 0);
        desk.mustRead(0, "set a = 10203;", 0);
        desk.mustExpect("set a = ^00;", "N M");
        desk.mustExpect("set a = ^01;", "N M");
        desk.mustExpect("set a = ^5b;", "N M");
        desk.mustExpect("set a = 5^B;", ";");
        desk.mustExpect("set a = 5^_b;", ";");
        desk.mustExpect("source a^-;", "; par rate key side");
        desk.mustRead(0, "set a=5;set b=a;source c\npar\n2;", 1);
        desk.mustExpect("^se t", "END use set source op loop");
    }

    private static void expected() {
        Desk desk = new Desk();
        desk.mustExpect("^a", "END use set source op loop");
        desk.mustExpect("use^", "M");
        desk.mustExpect("use ^a", "M");
        desk.mustExpect("use 1^", ";");
        desk.mustExpect("set^", "N");
        desk.mustExpect("set ^op", "N");
        desk.mustExpect("set a^;", "=");
        desk.mustExpect("set a = ^;", "N M");
        desk.mustExpect("set a = 1^,", ";");
        desk.mustExpect("loop^", "N");
        desk.mustExpect("loop a ^b", "to");
        desk.mustExpect("loop a to ^to", "N");
        desk.mustExpect("loop a to b^", ";");
        desk.mustExpect("op a^.", ":");
        desk.mustExpect("op a: ^source", "map filter flat span join union fold sink");
        desk.mustExpect("op a: map ^a", "from");
        String[] properties = {"map=par pass key side", "filter=par pass key side", "flat=par pass key side",
            "span=par pass keep side", "join=par pass keep side", "union=par key", "fold=par pass keep side",
            "sink=par"};
        for (String row : properties) {
            String kind = row.substring(0, row.indexOf('='));
            String may = row.substring(row.indexOf('=') + 1);
            desk.mustExpect("op a: " + kind + " from b^", "; , . " + may);
            desk.mustExpect("op a: " + kind + " from b.c^.", "; , " + may);
            desk.mustExpect("op a: " + kind + " from b par 3^,", ("; " + may).replace(" par", ""));
            desk.mustExpect("op a: " + kind + " from b ^rate 5", "; , . " + may);
        }
        desk.mustExpect("op a: map from b, c, d, e^", "; , . par pass key side");
        desk.mustExpect("op a: map from b pass 1^;", "/");
        desk.mustExpect("op a: map from b pass 1/^a", "M");
        desk.mustExpect("op a: map from b pass 1/2^/", "; par key side");
        desk.mustExpect("op a: span from b keep ^a", "M");
        desk.mustExpect("op a: span from b keep 9 ^keep 9", "; par pass side");
        desk.mustExpect("source a side x, y, z^", "; , par rate key");
        desk.mustExpect("source a side x par 1 ^side", "; rate key");
        desk.mustExpect("source a side x par 1^, y", "; rate key");
        desk.mustExpect("source a par 1 rate 2 key k side x^:", "; ,");
        desk.mustExpect("source a par 1 rate 2 side x key k^,", ";");
    }

    private static void bounds() {
        Desk desk = new Desk();
        desk.mustFail(2, "source a par ^0;");
        desk.mustRead(0, "source a par 1;", 1);
        desk.mustRead(0, "source a par 64;", 1);
        desk.mustFail(2, "source a par ^65;");
        desk.mustFail(2, "source a rate ^0;");
        desk.mustRead(0, "source a rate 99999;", 1);
        desk.mustExpect("source a rate ^100000;", "M");
        desk.mustRead(0, "source a; op b: map from a pass 0/1;", 2);
        desk.mustRead(0, "source a; op b: map from a pass 999/999;", 2);
        desk.mustFail(2, "source a; op b: map from a pass ^1000/1;");
        desk.mustFail(2, "source a; op b: map from a pass 1/^0;");
        desk.mustFail(2, "source a; op b: map from a pass 1/^1000;");
        desk.mustFail(2, "source a key k; op b: span from a keep ^0;");
        desk.mustRead(0, "source a key k; op b: span from a keep 9999;", 2);
        desk.mustFail(2, "source a key k; op b: span from a keep ^10000;");
        desk.mustFail(2, "use ^6;");
        desk.mustRead(0, "use 5;", 0);
    }

    private static String numbered(int from, int to, String before, String behind) {
        StringBuilder text = new StringBuilder();
        for (int i = from; i <= to; i++) {
            text.append(before).append(i).append(behind);
        }
        return text.toString();
    }

    private static void tooMany() {
        Desk desk = new Desk();
        desk.mustRead(0, Desk.repeat(30, "use 1;"), 0);
        desk.mustFail(3, Desk.repeat(30, "use 1;") + "use ^1;");
        desk.mustFail(2, Desk.repeat(30, "use 1;") + "use ^6;");
        String operators = numbered(1, 40, "source a", ";");
        desk.mustRead(0, operators, 40);
        desk.mustFail(3, operators + "source ^b;");
        desk.mustFail(3, operators + "op ^a1");
        String sets = numbered(1, 16, "set a", "=1;");
        desk.mustRead(0, sets, 0);
        desk.mustFail(3, sets + "set ^a1");
        String loops = "source s; op u: union from s, s;" + Desk.repeat(8, "loop u to u;");
        desk.mustRead(0, loops, 2);
        desk.mustFail(3, loops + "loop ^u to u;");
        desk.mustRead(0, "source s; op u: union from s, s, s, s;", 2);
        desk.mustFail(3, "source s; op u: union from s, s, s, s, ^s;");
        desk.mustRead(0, "source s side a, b, c;", 1);
        desk.mustFail(3, "source s side a, b, c, ^d;");
        desk.mustFail(3, "source s side a, b, c, ^a;");
        desk.mustRead(0, operators + sets, 40);
    }

    private static void tooManyComments() {
        Desk desk = new Desk();
        desk.mustRead(0, Desk.repeat(40, "#\n"), 0);
        desk.mustFail(3, Desk.repeat(40, "#\n") + "^#");
        desk.mustFail(3, Desk.repeat(20, "#\n") + " source #\n a #\n; " + Desk.repeat(18, "#\n") + "^#");
        String sixty = Desk.repeat(29, "# ") + "#x";
        Desk.due("sixty bytes", sixty.length(), 60);
        desk.mustRead(0, "#   " + sixty + "   \nsource a; # " + sixty, 1);
        desk.mustFail(3, "source a; ^#" + sixty + "y\n");
        desk.mustFail(3, "source a; ^#  y" + sixty + "  ");
        desk.mustFail(3, "source a ^#" + sixty + "y\n)");
        desk.mustExpect("source a ^) #" + sixty + "y\n", "; par rate key side");
        desk.mustFail(2, "source a par ^65 #" + sixty + "y\n");
    }

    private static void toldTwice() {
        Desk desk = new Desk();
        desk.mustFail(6, "source a; source ^a;");
        desk.mustFail(6, "source a; op ^a: map from a;");
        desk.mustFail(6, "set a = 1; set b = a; set ^a = 1;");
        desk.mustRead(0, "set a = 1; source a key a side a;", 1);
        desk.mustFail(6, "source a side b, c, ^b;");
        desk.mustRead(0, "source a side b; source b side b;", 2);
    }

    private static void uses() {
        Desk desk = new Desk();
        desk.mustFail(4, "use ^0;");
        desk.mustExpect("use 0^", ";");
        desk.mustExpect("use 0^,", ";");
        desk.putFile(1, "source b; use 2; source d;");
        desk.putFile(2, "source c;");
        desk.mustRead(0, "source a; use 1; source e;", 5);
        Desk.due("in its place", desk.printed(0), "source a;\nsource b;\nsource c;\nsource d;\nsource e;\n");
        Desk.due("its file", desk.x.operator(0, 2, 9), 2);
        Desk.due("its place", desk.x.operator(0, 2, 10), 7);
        Desk.due("its file", desk.x.operator(0, 4, 9), 0);
        Desk.due("its place", desk.x.operator(0, 4, 10), 24);
        desk.mustRead(1, "use 2; use 3;", 1);
        desk.mustRead(1, "use 3; use 3; use 2; use 3;", 1);

        Desk.due("a file twice", desk.readText(1, "use 2; use 2;"), -16);
        desk.dueFault("a file twice", 6, 2, 7, 0);
        desk.putFile(2, "use 5 ; use 1 ;");
        Desk.due("one another", desk.readText(1, "use 1;"), -14);
        desk.dueFault("one another", 4, 2, 12, 0);
        desk.putFile(2, "source c");
        Desk.due("the end of a file used", desk.readText(1, "use 1; par 3;"), -11);
        desk.dueFault("the end of a file used", 1, 2, 8, Desk.bits("; par rate key side"));
        desk.putFile(2, "source c; par");
        Desk.due("a statement of a file used", desk.readText(1, "use 1;"), -11);
        desk.dueFault("a statement of a file used", 1, 2, 10, Desk.bits("END use set source op loop"));
        desk.putFile(5, "source x; ");
        Desk.due("read(1, 5)", desk.x.read(1, 5), 1);
        desk.putFile(5, "source y; # changed");
        Desk.due("a job stays when its file is another", desk.printed(1), "source x;\n");

        desk.putFile(1, "use 2;");
        desk.putFile(2, "use 3;");
        desk.putFile(3, "use 4;");
        desk.putFile(4, "use 5;");
        desk.putFile(5, "source deep;");
        desk.mustRead(0, "use 1; source a;", 2);
        desk.putFile(5, "use 0;");
        Desk.due("all files", desk.readText(0, "use 1;"), -14);
        desk.dueFault("all files", 4, 5, 4, 0);
        desk.putFile(1, Desk.repeat(15, "use 2;"));
        desk.putFile(2, "");
        desk.mustRead(0, "use 1;" + Desk.repeat(14, "use 2;"), 0);
        Desk.due("the 31st use", desk.readText(0, Desk.repeat(2, "use 1;")), -13);
        desk.dueFault("the 31st use", 3, 1, 82, 0);
    }

    private static void faultsInOrder() {
        Desk desk = new Desk();
        desk.mustFail(2, "source a par ^0; source a;");
        desk.mustFail(6, "op a: map from nothing; source ^a;");
        desk.mustExpect("op a: map from nothing; ^!", "END use set source op loop");
    }
}
