/** Promises 17 to 23: print, out, take, differ, difference, numbers, numbered. */
public final class PrintTest {
    public static void main(String[] args) {
        printing();
        comments();
        outAndTake();
        longPage();
        longestPage();
        differing();
        mostDifferences();
        differencesStay();
        numbering();
        fullNumbers();
        Desk.end();
    }

    private static void printing() {
        Desk desk = new Desk();
        desk.mustRead(0, "set a=7;set b =\na;source s side x,y , z key k rate 5 par 2;"
            + "op m:map from s.y pass 1 / 2 par 3 side p key q;op j : join from s , s . x keep 4 side r;loop u to u;"
            + "op u:union from m . p,j key w par 1;op o:sink from u par 64;", 5);
        Desk.due("in one style", desk.printed(0), "set a = 7;\nset b = a;\nsource s par 2 rate 5 key k side x, y, z;\n"
            + "op m: map from s.y par 3 pass 1/2 key q side p;\nop j: join from s, s.x keep 4 side r;\nloop u to u;\n"
            + "op u: union from m.p, j par 1 key w;\nop o: sink from u par 64;\n");
        desk.mustRead(0, "source s key k rate 90109; op a: span from s; op b: fold from a keep 1000 pass 0/100;"
            + "op c: filter from b; op d: flat from c;", 5);
        Desk.due("kinds and numbers", desk.printed(0), "source s rate 90109 key k;\nop a: span from s;\n"
            + "op b: fold from a pass 0/100 keep 1000;\nop c: filter from b;\nop d: flat from c;\n");
        desk.mustRead(0, "set a = 0; set b = 10;", 0);
        Desk.due("numbers", desk.printed(0), "set a = 0;\nset b = 10;\n");
        desk.mustRead(0, " \n ", 0);
        Desk.due("nothing", desk.printed(0), "");
        Desk.due("print(1)", desk.x.print(1), JobText.STATE);
    }

    private static void comments() {
        Desk desk = new Desk();
        desk.putFile(1, "#in 1\n");
        desk.putFile(2, "# in 2\nset #behind set\n c = 1;#  end of 2  ");
        desk.mustRead(0, "#a\n# b # c\nuse #d\n1 #e\n; #f\nsource s #g\n; #   \nuse 2; #\nuse 1; source t; # h\n#  i ", 2);
        Desk.due("comments", desk.printed(0), "# a\n# b # c\n# d\n# e\n# in 1\n# f\nsource s;\n# g\n#\n# in 2\nset c = 1;\n"
            + "# behind set\n# end of 2\n#\n# in 1\nsource t;\n# h\n# i\n");
        Desk.due("how many", desk.x.count(0, 3), 15);
        desk.mustRead(0, "#x", 0);
        Desk.due("a comment alone", desk.printed(0), "# x\n");
        desk.mustRead(0, "source s;#;", 1);
        Desk.due("a comment at the end", desk.printed(0), "source s;\n# ;\n");
    }

    private static void outAndTake() {
        Desk desk = new Desk();
        desk.mustRead(0, "source  s;", 1);
        desk.typeText("tape");
        Desk.due("print(0)", desk.x.print(0), 10);
        Desk.due("out(-1)", desk.x.out(-1), JobText.NONE);
        Desk.due("out(9)", desk.x.out(9), 10);
        Desk.due("out(10)", desk.x.out(10), JobText.NONE);
        Desk.due("print(1)", desk.x.print(1), JobText.STATE);
        Desk.due("print(2)", desk.x.print(2), JobText.BAD);
        desk.x.drop(0);
        Desk.due("the out stays", Desk.text(desk.x::out), "source s;\n");
        Desk.due("take()", desk.x.take(), 10);
        Desk.due("take() again", desk.x.take(), 10);
        desk.typeText("# x");
        Desk.due("the out is not the tape", Desk.text(desk.x::out), "source s;\n");
        Desk.due("file(1)", desk.x.file(1), 13);
        Desk.due("what was taken", Desk.text(i -> desk.x.byteOf(1, i)), "source s;\n# x");
    }

    private static void longPage() {
        Desk desk = new Desk();
        StringBuilder want = new StringBuilder();
        for (int file = 1; file <= 5; file++) {
            StringBuilder text = new StringBuilder();
            for (int i = 0; i < 8; i++) {
                String name = "operator" + file + "x" + i;
                text.append("op ").append(name).append(":union from source.a,source.b,source.c,source par 64 key longestname1;");
                want.append("op ").append(name).append(": union from source.a, source.b, source.c, source par 64 key ")
                    .append("longestname1;\n");
            }
            desk.putFile(file, text.toString().replace("source", "thesourceone"));
        }
        desk.putFile(5, "source thesourceone side a, b, c;" + Desk.repeat(16, "# " + Desk.repeat(60, "x") + "\n"));
        String start = want.toString().replace("source", "thesourceone");
        start = start.substring(0, start.indexOf("op operator5"));
        String end = "source thesourceone side a, b, c;\n" + Desk.repeat(16, "# " + Desk.repeat(60, "x") + "\n");
        desk.mustRead(0, "use 1; use 2; use 3; use 4; use 5;", 33);
        Desk.due("a long page", desk.printed(0), start + end);
        Desk.due("take of a long page", desk.x.take(), 1200);
        Desk.due("file of it", desk.x.file(0), 1200);
        Desk.due("its first bytes", Desk.text(i -> desk.x.byteOf(0, i)), start.substring(0, 1200));
    }

    private static String longUnion(int i) {
        String stream = "thesourceone.sidenumber01";
        return "op longunion0" + i + ": union from " + stream + (", " + stream).repeat(3) + " par 64 key thelongerkey;\n";
    }

    /** The text as short as it can be typed: nothing stands between two tokens that need nothing. */
    private static String squeezed(String text) {
        return text.replaceAll("([:,=;])[ \n]", "$1").replace(" =", "=").replace("# ", "#");
    }

    // As many and as long statements and comments as six full files can tell.
    private static void longestPage() {
        Desk desk = new Desk();
        String comment = "# " + "#".repeat(60) + "\n";
        String loop = "loop longunion010 to longunion010;\n";
        StringBuilder sets = new StringBuilder();
        for (int i = 10; i < 26; i++) {
            sets.append("set longestset").append(i).append(" = longestvalue;\n");
        }
        desk.putFile(1, squeezed(comment.repeat(19)));
        StringBuilder want = new StringBuilder();
        for (int file = 2; file <= 5; file++) {
            StringBuilder text = new StringBuilder();
            for (int i = 0; i < 7; i++) {
                text.append(longUnion(file * 10 - 10 + i));
            }
            text.append(loop.repeat(2));
            desk.putFile(file, squeezed(text.toString()));
            want.append(text);
        }
        String source = "source thesourceone par 64 rate 99999 key thelongerkey side sidenumber01, sidenumber02, sidenumber03;\n";
        String rest = source + sets + comment + longUnion(60) + comment + longUnion(61);
        desk.mustRead(0, "use 1;use 2;use 3;use 4;use 5;use 1;" + squeezed(rest), 31);
        Desk.due("the longest page", desk.printed(0), comment.repeat(19) + want + comment.repeat(19) + rest);
        Desk.due("its bytes", desk.x.print(0), 40 * 63 + 30 * 160 + 16 * 33 + 8 * 35 + source.length());
    }

    private static void dueDifferences(String first, String second, String want) {
        Desk desk = new Desk();
        desk.readText(0, first);
        desk.readText(1, second);
        Desk.due("differences of " + first + " and " + second, desk.differences(), want);
    }

    private static void differing() {
        dueDifferences("", "", "");
        dueDifferences("source a;", "# x\nset b = 1; source a;", "");
        dueDifferences("source a; source b;", "source b; source a;", "");
        dueDifferences("source a; source b; source c;", "source d; source b; source e;", "1 0 0, 1 2 0, 3 0 0, 3 2 0");
        dueDifferences("source a; op b: map from a;", "source a; op b: flat from a;", "2 1 1");
        dueDifferences("source a side x; op b: map from a;", "source a side x; op b: map from a.x;", "2 1 2");
        dueDifferences("source a side x, y; op b: map from a.x;", "source a side x, y; op b: map from a.y;", "2 1 2");
        dueDifferences("source a; op b: sink from a;", "source a; op b: sink from a, a;", "2 1 2");
        dueDifferences("source a; source b; op c: sink from a, b;", "source a; source b; op c: sink from b, a;", "2 2 2");
        dueDifferences("source a; op u: union from a, a, a, a;", "source a; op u: union from a, a, a, a;", "");
        dueDifferences("source a; source b; op u: union from a, a, a, a;", "source a; source b; op u: union from a, a, a, b;", "2 2 2");
        dueDifferences("source a side x, y, z;", "source a side x, y, z;", "");
        dueDifferences("source a side x, y, z;", "source a side x, y, w;", "2 0 128");
        dueDifferences("source a;", "source a par 1;", "2 0 4");
        dueDifferences("source a par 2;", "source a par 3;", "2 0 4");
        dueDifferences("source a;", "source a rate 1;", "2 0 8");
        dueDifferences("source a; op b: map from a pass 1/2;", "source a; op b: map from a pass 2/4;", "2 1 16");
        dueDifferences("source a; op b: map from a pass 0/1;", "source a; op b: map from a;", "2 1 16");
        dueDifferences("source a key k;", "source a key l;", "2 0 32");
        dueDifferences("source a key k;", "source a;", "2 0 32");
        dueDifferences("source a key k; op b: fold from a keep 1;", "source a key k; op b: fold from a;", "2 1 64");
        dueDifferences("source a side x, y;", "source a side y, x;", "2 0 128");
        dueDifferences("source a side x, y;", "source a side x;", "2 0 128");
        dueDifferences("source a side x, y;", "source a side z, y;", "2 0 128");
        dueDifferences("source a side x, y;", "source a side x, z;", "2 0 128");
        dueDifferences("source a; source s; op b: join from c, c keep 2 side x par 3 pass 1/2; source c key k;",
            "source b rate 5; source c key k;", "1 0 0, 1 1 0, 2 2 223");
    }

    private static void mostDifferences() {
        Desk desk = new Desk();
        desk.mustRead(0, sources("a", 0, 40), 40);
        desk.mustRead(1, sources("b", 0, 40), 40);
        Desk.due("differ() of unlike jobs", desk.x.differ(), 80);
        Desk.due("the last one of job 0", desk.x.difference(39, 1), 39);
        Desk.due("the first one of job 1", desk.x.difference(40, 0), 3);
        Desk.due("the last one of job 1", desk.x.difference(79, 1), 39);
        Desk.due("difference(80, 0)", desk.x.difference(80, 0), JobText.BAD);
    }

    private static void differencesStay() {
        Desk desk = new Desk();
        desk.mustRead(0, "source a; source b par 2;", 2);
        Desk.due("differ() of one", desk.x.differ(), JobText.STATE);
        desk.mustRead(1, "source b; source c;", 2);
        Desk.due("differ()", desk.x.differ(), 3);
        desk.x.drop(0);
        Desk.due("differ() of one", desk.x.differ(), JobText.STATE);
        int[][] want = {{1, 0, 0}, {2, 1, 4}, {3, 1, 0}};
        for (int i = 0; i < 3; i++) {
            for (int what = 0; what < 3; what++) {
                Desk.due("difference(" + i + ", " + what + ")", desk.x.difference(i, what), want[i][what]);
            }
            Desk.due("difference, what", desk.x.difference(i, 3), JobText.BAD);
            Desk.due("difference, what", desk.x.difference(i, -1), JobText.BAD);
        }
        Desk.due("difference(3, 0)", desk.x.difference(3, 0), JobText.BAD);
        Desk.due("difference(-1, 0)", desk.x.difference(-1, 0), JobText.BAD);
        desk.mustRead(0, "source b; source c;", 2);
        Desk.due("differ() of like jobs", desk.x.differ(), 0);
        Desk.due("difference(0, 0)", desk.x.difference(0, 0), JobText.BAD);
    }

    private static String sources(String name, int from, int many) {
        StringBuilder text = new StringBuilder();
        for (int i = from; i < from + many; i++) {
            text.append("source ").append(name).append(i).append(';');
        }
        return text.toString();
    }

    private static void numbering() {
        Desk desk = new Desk();
        desk.mustRead(0, "op b: map from a; source a;", 2);
        desk.mustRead(1, "source c; source a;", 2);
        desk.mustRead(0, "source d;", 1);
        desk.mustFail(7, "source e; op f: map from ^g;");
        desk.x.drop(0);
        desk.x.drop(1);
        Desk.due("numbers()", desk.x.numbers(), 4);
        String[] want = {"b", "a", "c", "d"};
        for (int n = 0; n < 4; n++) {
            int number = n;
            Desk.due("numbered(" + n + ", ..)", Desk.text(i -> desk.x.numbered(number, i)), want[n]);
        }
        Desk.due("numbered(4, 0)", desk.x.numbered(4, 0), JobText.BAD);
        Desk.due("numbered(-1, 0)", desk.x.numbered(-1, 0), JobText.BAD);
        Desk.due("numbered(0, 1)", desk.x.numbered(0, 1), JobText.NONE);
        Desk.due("numbered(0, -1)", desk.x.numbered(0, -1), JobText.NONE);
        desk.mustRead(1, "source d; source b;", 2);
        Desk.due("number of d", desk.x.operator(1, 0, 8), 3);
        Desk.due("number of b", desk.x.operator(1, 1, 8), 0);
    }

    private static void fullNumbers() {
        Desk desk = new Desk();
        for (int i = 0; i < 4; i++) {
            desk.mustRead(0, sources("a", 40 * i, 40), 40);
        }
        desk.mustRead(0, sources("b", 0, 39), 39);
        Desk.due("numbers()", desk.x.numbers(), 199);
        desk.mustFail(1, "^,");
        Desk.due("two more", desk.readText(0, "source c; source d;"), JobText.FULL);
        desk.dueFault("two more", 0, JobText.NONE, JobText.NONE, 0);
        Desk.due("numbers() stay", desk.x.numbers(), 199);
        Desk.due("the job stays", desk.x.count(0, 0), 39);
        desk.mustFail(7, "source c; source d; op e: map from ^f;");
        desk.mustRead(0, "source d; source a7;", 2);
        Desk.due("numbers() are full", desk.x.numbers(), 200);
        Desk.due("number of d", desk.x.operator(0, 0, 8), 199);
        Desk.due("number of a7", desk.x.operator(0, 1, 8), 7);
        Desk.due("one more", desk.readText(1, "source a1; source c;"), JobText.FULL);
        Desk.due("the other job stays", desk.x.count(1, 0), JobText.STATE);
        desk.mustRead(1, sources("a", 100, 40), 40);
    }
}
