/** The boundaries and refused calls of promises 1 to 23, a method for each, and that what is refused changes nothing. */
public final class RefusalTest {
    private static final int[] ODD = {Integer.MIN_VALUE, Integer.MIN_VALUE + 1, -65536, -256, -2, -1, 65536, 715827883, 1431655766,
        Integer.MAX_VALUE - 1, Integer.MAX_VALUE};

    private static final String RICH = "# c\nset a = 7; set b = a;\nsource s par 3 rate 7 key k side x, y, z;\n"
        + "op b: span from s.y par 2 pass 3/4 keep 5 side z;\nop u: union from b, b.z key l;\nop c: sink from u, s.x;\n"
        + "loop u to u;\n# end";
    private static final int RICH_OPERATORS = 4;

    public static void main(String[] args) {
        newObject();
        type();
        typeFull();
        cut();
        file();
        byteOf();
        read();
        readWithFaultKeepsJob();
        drop();
        fault();
        count();
        operator();
        letter();
        input();
        flow();
        set();
        setLetter();
        loop();
        print();
        out();
        take();
        differ();
        difference();
        numbers();
        numbered();
        refusedChangesNothing();
        callsUpToTheLast();
        Desk.end();
    }

    private static void bad(String call, int answer) {
        Desk.due(call, answer, JobText.BAD);
    }

    private static void none(String call, int answer) {
        Desk.due(call, answer, JobText.NONE);
    }

    private static void state(String call, int answer) {
        Desk.due(call, answer, JobText.STATE);
    }

    private static Desk rich() {
        Desk desk = new Desk();
        desk.mustRead(0, RICH, RICH_OPERATORS);
        return desk;
    }

    private static String sources(String name, int from, int many) {
        StringBuilder text = new StringBuilder();
        for (int i = from; i < from + many; i++) {
            text.append("source ").append(name).append(i).append(';');
        }
        return text.toString();
    }

    // Promise 1: "FILES, TAPE, OUT are empty; no JOBS, no NUMBERS."
    private static void newObject() {
        JobText x = new JobText();
        for (int k = 0; k < 6; k++) {
            none("new: byteOf", x.byteOf(k, 0));
            Desk.due("new: read of file " + k, new JobText().read(0, k), 0);
        }
        bad("new: cut(1)", x.cut(1));
        none("new: out(0)", x.out(0));
        state("new: print(0)", x.print(0));
        state("new: print(1)", x.print(1));
        Desk.due("new: numbers()", x.numbers(), 0);
        Desk.due("new: type", x.type('a', 1), 1);
        Desk.due("two objects are two", new JobText().type('a', 1), 1);
    }

    // Promise 2: "The n lowest bytes (1 .. 8) of w, of these the highest first"; "BAD: n, a byte is not 10, 32 .. 126"
    private static void type() {
        String bytes = "ABCDEFGH";
        for (int n = 1; n <= 8; n++) {
            Desk desk = new Desk();
            Desk.due("type of " + n, desk.x.type(Desk.word(bytes), n), n);
            Desk.due("file", desk.x.file(0), n);
            Desk.due("what was typed", Desk.text(i -> desk.x.byteOf(0, i)), bytes.substring(8 - n));
        }
        Desk desk = new Desk();
        for (int odd : ODD) {
            bad("type(.., " + odd + ")", desk.x.type(Desk.word(bytes), odd));
        }
        bad("type(.., 0)", desk.x.type(Desk.word(bytes), 0));
        bad("type(.., 9)", desk.x.type(Desk.word(bytes), 9));
        int[] wrong = {0, 9, 11, 31, 127, 128, 138, 160, 255};
        for (int place = 0; place < 8; place++) {
            for (int b : wrong) {
                long word = Desk.word(bytes) & ~(255L << 8 * place) | (long) b << 8 * place;
                bad("type with byte " + b + " at " + place, desk.x.type(word, 8));
                Desk.due("type of the bytes below it", new JobText().type(word, Math.max(place, 1)), place == 0 ? JobText.BAD : place);
            }
            long least = Desk.word(bytes) & ~(255L << 8 * place) | 10L << 8 * place;
            Desk.due("type with 10 at " + place, new JobText().type(least, 8), 8);
        }
        Desk.due("nothing was typed", desk.x.cut(0), 0);
        Desk.due("the edges", desk.x.type(10 << 16 | 32 << 8 | 126, 3), 3);
    }

    // Promise 2: "FULL: 1200."
    private static void typeFull() {
        for (int n = 1; n <= 8; n++) {
            Desk desk = new Desk();
            desk.typeText("a".repeat(1200 - n));
            if (n < 8) {
                Desk.due("type one more than fits", desk.x.type(Desk.word("bbbbbbbb"), n + 1), JobText.FULL);
            }
            bad("BAD ahead of FULL", desk.x.type(0, 8));
            Desk.due("type what fits", desk.x.type(Desk.word("cccccccc"), n), 1200);
            Desk.due("type behind the end", desk.x.type('d', 1), JobText.FULL);
            bad("BAD ahead of FULL", desk.x.type('d', 0));
            Desk.due("cut(1)", desk.x.cut(1), 1199);
            Desk.due("type again", desk.x.type('e', 1), 1200);
            Desk.due("file", desk.x.file(0), 1200);
            Desk.due("its bytes", Desk.text(i -> desk.x.byteOf(0, i)), "a".repeat(1200 - n) + "c".repeat(n - 1) + "e");
        }
    }

    // Promise 3: "(n 0 .. all)"
    private static void cut() {
        Desk desk = new Desk();
        Desk.due("cut(0) of nothing", desk.x.cut(0), 0);
        bad("cut(1) of nothing", desk.x.cut(1));
        desk.typeText("abc");
        bad("cut(4)", desk.x.cut(4));
        for (int odd : ODD) {
            bad("cut(" + odd + ")", desk.x.cut(odd));
        }
        Desk.due("cut(1)", desk.x.cut(1), 2);
        Desk.due("cut(0)", desk.x.cut(0), 2);
        bad("cut(3)", desk.x.cut(3));
        Desk.due("cut of all", desk.x.cut(2), 0);
        desk.typeText("x");
        Desk.due("file", desk.x.file(0), 1);
        Desk.due("its byte", desk.x.byteOf(0, 0), 'x');
        desk.typeText("y".repeat(1200));
        bad("cut(1201)", desk.x.cut(1201));
        Desk.due("cut(1200)", desk.x.cut(1200), 0);
    }

    // Promise 4: "THE TAPE becomes FILE k, and is empty then: how many bytes. BAD."
    private static void file() {
        Desk desk = new Desk();
        desk.typeText("abc");
        for (int odd : ODD) {
            bad("file(" + odd + ")", desk.x.file(odd));
        }
        bad("file(6)", desk.x.file(6));
        Desk.due("the tape stays", desk.x.cut(0), 3);
        Desk.due("file(5)", desk.x.file(5), 3);
        Desk.due("the tape is empty", desk.x.cut(0), 0);
        Desk.due("type begins anew", desk.x.type('z', 1), 1);
        Desk.due("file(5) shorter", desk.x.file(5), 1);
        Desk.due("the old bytes went", Desk.text(i -> desk.x.byteOf(5, i)), "z");
        Desk.due("file(5) of nothing", desk.x.file(5), 0);
        none("the old byte went", desk.x.byteOf(5, 0));
        for (int k = 0; k < 6; k++) {
            desk.typeText("file" + k);
            Desk.due("file(" + k + ")", desk.x.file(k), 5);
        }
        for (int k = 0; k < 6; k++) {
            int own = k;
            Desk.due("each its own", Desk.text(i -> desk.x.byteOf(own, i)), "file" + k);
        }
    }

    // Promise 5: "Byte i of a FILE; NONE. BAD: no such FILE."
    private static void byteOf() {
        Desk desk = new Desk();
        desk.putFile(0, "\n ~");
        Desk.due("byteOf(0, 0)", desk.x.byteOf(0, 0), 10);
        Desk.due("byteOf(0, 1)", desk.x.byteOf(0, 1), 32);
        Desk.due("byteOf(0, 2)", desk.x.byteOf(0, 2), 126);
        none("byteOf(0, 3)", desk.x.byteOf(0, 3));
        none("byteOf(0, 1200)", desk.x.byteOf(0, 1200));
        for (int odd : ODD) {
            none("byteOf(0, " + odd + ")", desk.x.byteOf(0, odd));
            none("byteOf(5, " + odd + ")", desk.x.byteOf(5, odd));
            bad("byteOf(" + odd + ", 0)", desk.x.byteOf(odd, 0));
            bad("BAD ahead of NONE", desk.x.byteOf(odd, odd));
        }
        bad("byteOf(6, 0)", desk.x.byteOf(6, 0));
        bad("byteOf(6, 9)", desk.x.byteOf(6, 9));
    }

    // Promise 6: "BAD; FULL: there would be more than 200 NUMBERS (THE FAULT is none then)."
    private static void read() {
        Desk desk = rich();
        for (int odd : ODD) {
            bad("read(" + odd + ", 0)", desk.x.read(odd, 0));
            bad("read(0, " + odd + ")", desk.x.read(0, odd));
        }
        bad("read(2, 0)", desk.x.read(2, 0));
        bad("read(0, 6)", desk.x.read(0, 6));
        for (int k = 1; k < 6; k++) {
            Desk.due("read(1, " + k + ")", desk.x.read(1, k), 0);
        }
        Desk full = new Desk();
        for (int i = 0; i < 4; i++) {
            full.mustRead(0, sources("a", 40 * i, 40), 40);
        }
        Desk more = new Desk();
        for (int i = 0; i < 5; i++) {
            more.mustRead(i % 2, sources("a", 40 * i, 40), 40);
        }
        Desk.due("200 numbers", more.x.numbers(), 200);
        more.mustFail(6, "source a1; source ^a1;");
        Desk.due("one more", more.readText(0, "source b;"), JobText.FULL);
        more.dueFault("one more", 0, JobText.NONE, JobText.NONE, 0);
        Desk.due("its job stays", more.name(0, 39, 0), "a199");
        Desk.due("the other one, too", more.name(1, 39, 0), "a159");
        more.mustFail(7, "source b; op c: map from ^d;");
        more.mustRead(0, "", 0);
        more.mustRead(0, "source a199; source a0;", 2);
        Desk.due("200 numbers", more.x.numbers(), 200);
        full.mustRead(0, sources("a", 150, 10) + sources("b", 0, 30), 40);
        Desk.due("190 numbers", full.x.numbers(), 190);
        Desk.due("eleven more", full.readText(1, sources("c", 0, 11)), JobText.FULL);
        Desk.due("none of them has a number", full.x.numbers(), 190);
        state("job 1 is not read", full.x.count(1, 0));
        full.mustRead(1, sources("c", 1, 10) + sources("a", 0, 20), 30);
        Desk.due("200 numbers", full.x.numbers(), 200);
        Desk.due("the last one", Desk.text(i -> full.x.numbered(199, i)), "c10");
    }

    // Promise 6: "-10 less the FAULT (the JOB stays, too)"
    private static void readWithFaultKeepsJob() {
        Desk desk = rich();
        String[] faults = {"^)", "source a par ^65;", "source a side b, c, d, ^e;", "use ^0;", "source a; source ^a;",
            "op a: map from ^b;", "source a; op b: map from a.^c;", "source a; op b: sink from a; op c: map from ^b;",
            "source a; op b: ^join from a;", "source a; loop a to ^a;", "op ^a: map from a;",
            "source a; op u: union from a, a; loop ^a to u;", "source a; op b: ^fold from a;"};
        int[] which = {1, 2, 3, 4, 6, 7, 8, 9, 10, 12, 13, 14, 15};
        String before = whole(desk);
        for (int i = 0; i < faults.length; i++) {
            desk.mustFail(which[i], faults[i]);
            Desk.due("the job stays behind " + faults[i], whole(desk), before);
            state("the other one is not read", desk.x.count(1, 0));
        }
        Desk.due("no numbers of texts with faults", desk.x.numbers(), RICH_OPERATORS);
    }

    /** All that job 0 answers. */
    private static String whole(Desk desk) {
        StringBuilder all = new StringBuilder(desk.printed(0));
        for (int what = 0; what < 8; what++) {
            all.append(desk.x.count(0, what)).append(' ');
        }
        for (int k = 0; k < desk.x.count(0, 0); k++) {
            all.append(desk.operator(0, k)).append(' ').append(desk.flow(0, k)).append(' ').append(desk.name(0, k, 1));
            for (int j = 0; j < desk.x.operator(0, k, 6); j++) {
                all.append(' ').append(desk.x.input(0, k, j, 0)).append('.').append(desk.x.input(0, k, j, 1));
            }
        }
        for (int k = 0; k < desk.x.count(0, 1); k++) {
            all.append(' ').append(desk.x.set(0, k, 0)).append(' ').append(desk.x.set(0, k, 2));
        }
        for (int k = 0; k < desk.x.count(0, 2); k++) {
            all.append(' ').append(desk.x.loop(0, k, 0)).append(' ').append(desk.x.loop(0, k, 1));
        }
        return all.toString();
    }

    // Promise 7: "A JOB is not read any more: 1. BAD; STATE."
    private static void drop() {
        Desk desk = rich();
        for (int odd : ODD) {
            bad("drop(" + odd + ")", desk.x.drop(odd));
        }
        bad("drop(2)", desk.x.drop(2));
        state("drop(1)", desk.x.drop(1));
        Desk.due("drop(0)", desk.x.drop(0), 1);
        state("drop(0) again", desk.x.drop(0));
        state("count", desk.x.count(0, 0));
        state("print", desk.x.print(0));
        Desk.due("numbers live on", desk.x.numbers(), RICH_OPERATORS);
        desk.mustRead(1, "source q; source s;", 2);
        desk.mustRead(0, "", 0);
        Desk.due("drop(0) of an empty job", desk.x.drop(0), 1);
        Desk.due("job 1 stays", desk.x.count(1, 0), 2);
        Desk.due("drop(1)", desk.x.drop(1), 1);
        state("drop(1) again", desk.x.drop(1));
        desk.mustRead(0, "source u;", 1);
        Desk.due("the number of before", desk.x.operator(0, 0, 8), 2);
    }

    // Promise 8: "Of the latest read() that was not BAD"
    private static void fault() {
        Desk desk = new Desk();
        desk.dueFault("before any read", 0, JobText.NONE, JobText.NONE, 0);
        bad("read(2, 0)", desk.x.read(2, 0));
        desk.dueFault("behind BAD alone", 0, JobText.NONE, JobText.NONE, 0);
        desk.mustExpect("source a ^)", "; par rate key side");
        int expected = Desk.bits("; par rate key side");
        bad("read(0, 6)", desk.x.read(0, 6));
        bad("read(-1, 0)", desk.x.read(-1, 0));
        desk.dueFault("behind BAD", 1, 0, 9, expected);
        state("drop(0)", desk.x.drop(0));
        state("print(0)", desk.x.print(0));
        desk.dueFault("behind other calls", 1, 0, 9, expected);
        desk.putFile(3, "source a par 0;");
        desk.dueFault("behind a new file", 1, 0, 9, expected);
        Desk.due("read(1, 3)", desk.x.read(1, 3), -12);
        desk.dueFault("of the latest", 2, 3, 13, 0);
        Desk.due("read(1, 4)", desk.x.read(1, 4), 0);
        desk.dueFault("none", 0, JobText.NONE, JobText.NONE, 0);
        for (int odd : ODD) {
            bad("fault(" + odd + ")", desk.x.fault(odd));
        }
        bad("fault(4)", desk.x.fault(4));
    }

    // Promise 9
    private static void count() {
        Desk desk = rich();
        for (int odd : ODD) {
            bad("count(" + odd + ", 0)", desk.x.count(odd, 0));
            bad("count(0, " + odd + ")", desk.x.count(0, odd));
            bad("BAD ahead of STATE", desk.x.count(1, odd));
        }
        bad("count(2, 0)", desk.x.count(2, 0));
        bad("count(0, 8)", desk.x.count(0, 8));
        bad("BAD ahead of STATE", desk.x.count(1, 8));
        int[] want = {4, 2, 1, 2, 4, 7, 15, 4};
        for (int what = 0; what < 8; what++) {
            Desk.due("count(0, " + what + ")", desk.x.count(0, what), want[what]);
            state("count(1, " + what + ")", desk.x.count(1, what));
        }
        Desk.due("read of an empty file", desk.x.read(1, 5), 0);
        for (int what = 0; what < 8; what++) {
            Desk.due("count of an empty job", desk.x.count(1, what), 0);
        }
    }

    // Promise 10: "(STATE behind BAD job, what; ahead of BAD k.)"
    private static void operator() {
        Desk desk = rich();
        for (int what = 0; what < 16; what++) {
            bad("operator, k 4", desk.x.operator(0, 4, what));
            bad("operator, k -1", desk.x.operator(0, -1, what));
            bad("operator, job 2", desk.x.operator(2, 0, what));
            state("operator, job 1", desk.x.operator(1, 0, what));
        }
        for (int odd : ODD) {
            bad("operator, job " + odd, desk.x.operator(odd, 0, 0));
            bad("operator, k " + odd, desk.x.operator(0, odd, 0));
            bad("operator, what " + odd, desk.x.operator(0, 0, odd));
            bad("operator, not read, what " + odd, desk.x.operator(1, 0, odd));
            state("operator, not read, k " + odd, desk.x.operator(1, odd, 15));
        }
        bad("operator, what 16", desk.x.operator(0, 0, 16));
        bad("operator, not read, what 16", desk.x.operator(1, 0, 16));
        Desk.due("operator, what 15", desk.x.operator(0, 3, 15), 0);
        Desk.due("read of an empty file", desk.x.read(1, 5), 0);
        bad("operator of an empty job", desk.x.operator(1, 0, 0));
        desk.mustRead(1, sources("a", 0, 40), 40);
        Desk.due("the 40th", desk.x.operator(1, 39, 12), 39);
        bad("the 41st", desk.x.operator(1, 40, 12));
    }

    // Promise 11: "NONE (also: no such side, not KEYED)"
    private static void letter() {
        Desk desk = rich();
        Desk.due("sides", desk.name(0, 0, 2) + desk.name(0, 0, 3) + desk.name(0, 0, 4), "xyz");
        none("behind a side", desk.x.letter(0, 0, 4, 1));
        none("no second side", desk.x.letter(0, 1, 3, 0));
        none("no third side", desk.x.letter(0, 1, 4, 0));
        none("no side", desk.x.letter(0, 2, 2, 0));
        none("not keyed", desk.x.letter(0, 3, 1, 0));
        for (int odd : ODD) {
            for (int what = 0; what < 5; what++) {
                none("letter, i " + odd, desk.x.letter(0, 0, what, odd));
                state("letter, not read", desk.x.letter(1, odd, what, odd));
                bad("letter, k " + odd, desk.x.letter(0, odd, what, odd));
            }
            bad("letter, job " + odd, desk.x.letter(odd, 0, 0, 0));
            bad("letter, what " + odd, desk.x.letter(0, 0, odd, 0));
            bad("letter, not read, what " + odd, desk.x.letter(1, 0, odd, 0));
        }
        bad("letter, what 5", desk.x.letter(0, 0, 5, 0));
        bad("letter, not read, what 5", desk.x.letter(1, 0, 5, 0));
        bad("letter, k 4", desk.x.letter(0, 4, 0, 0));
        Desk longest = new Desk();
        longest.mustRead(0, "source abcdefghijkl key mnopqrstuvwx side yz0123456789;", 1);
        for (int what = 0; what < 3; what++) {
            Desk.due("the 12th byte", longest.x.letter(0, 0, what, 11), "lx9".charAt(what));
            none("the 13th byte", longest.x.letter(0, 0, what, 12));
        }
    }

    // Promise 12: "(0, 1, 2; NONE: the main stream)"
    private static void input() {
        Desk desk = rich();
        Desk.due("its operator", desk.x.input(0, 1, 0, 0), 0);
        Desk.due("its side", desk.x.input(0, 1, 0, 1), 1);
        none("its main stream", desk.x.input(0, 2, 0, 1));
        bad("of a source", desk.x.input(0, 0, 0, 0));
        bad("the second of one", desk.x.input(0, 1, 1, 0));
        bad("the third of two", desk.x.input(0, 2, 2, 1));
        for (int odd : ODD) {
            bad("input, job " + odd, desk.x.input(odd, 1, 0, 0));
            bad("input, k " + odd, desk.x.input(0, odd, 0, 0));
            bad("input, j " + odd, desk.x.input(0, 1, odd, 0));
            bad("input, what " + odd, desk.x.input(0, 1, 0, odd));
            bad("input, not read, what " + odd, desk.x.input(1, 1, 0, odd));
            state("input, not read", desk.x.input(1, odd, odd, 1));
        }
        bad("input, k 4", desk.x.input(0, 4, 0, 0));
        bad("input, what 2", desk.x.input(0, 1, 0, 2));
    }

    // Promise 13: "NONE: it is BIG"
    private static void flow() {
        Desk desk = rich();
        for (int odd : ODD) {
            bad("flow, job " + odd, desk.x.flow(odd, 0, 0));
            bad("flow, k " + odd, desk.x.flow(0, odd, 0));
            bad("flow, what " + odd, desk.x.flow(0, 0, odd));
            bad("flow, not read, what " + odd, desk.x.flow(1, 0, odd));
            state("flow, not read", desk.x.flow(1, odd, 3));
        }
        bad("flow, k 4", desk.x.flow(0, 4, 0));
        bad("flow, what 4", desk.x.flow(0, 0, 4));
        Desk big = new Desk();
        big.mustRead(0, "source s rate 99999; op a: map from s pass 999/1; op b: map from a pass 999/1; op c: map from a;", 4);
        for (int what = 0; what < 4; what++) {
            Desk.due("flow of b", big.x.flow(0, 2, what), new int[] {JobText.NONE, JobText.NONE, 0, 1}[what]);
            Desk.due("flow of c", big.x.flow(0, 3, what), new int[] {99899001, 1, 0, 1}[what]);
        }
    }

    // Promise 14: "(NONE: it is a NAME)"
    private static void set() {
        Desk desk = rich();
        Desk.due("a number", desk.x.set(0, 0, 0), 7);
        none("a name", desk.x.set(0, 1, 0));
        Desk.due("its place", desk.x.set(0, 1, 2), RICH.indexOf("b = a"));
        for (int odd : ODD) {
            bad("set, job " + odd, desk.x.set(odd, 0, 0));
            bad("set, k " + odd, desk.x.set(0, odd, 0));
            bad("set, what " + odd, desk.x.set(0, 0, odd));
            bad("set, not read, what " + odd, desk.x.set(1, 0, odd));
            state("set, not read", desk.x.set(1, odd, 2));
        }
        bad("set, k 2", desk.x.set(0, 2, 0));
        bad("set, what 3", desk.x.set(0, 0, 3));
        Desk full = new Desk();
        full.mustRead(1, sources("a", 0, 16).replace("source ", "set ").replace(";", "=99999;"), 0);
        Desk.due("the 16th", full.x.set(1, 15, 0), 99999);
        bad("the 17th", full.x.set(1, 16, 0));
        bad("the 17th", full.x.setLetter(1, 16, false, 0));
    }

    // Promise 15: "NONE (also: a number)"
    private static void setLetter() {
        Desk desk = rich();
        Desk.due("its name", desk.x.setLetter(0, 1, false, 0), 'b');
        Desk.due("what it is", desk.x.setLetter(0, 1, true, 0), 'a');
        none("a number", desk.x.setLetter(0, 0, true, 0));
        none("behind", desk.x.setLetter(0, 1, true, 1));
        for (int odd : ODD) {
            bad("setLetter, job " + odd, desk.x.setLetter(odd, 0, true, 0));
            bad("setLetter, k " + odd, desk.x.setLetter(0, odd, true, odd));
            state("setLetter, not read", desk.x.setLetter(1, odd, true, odd));
            none("setLetter, i " + odd, desk.x.setLetter(0, 0, false, odd));
            none("setLetter of a number, i " + odd, desk.x.setLetter(0, 0, true, odd));
        }
        bad("setLetter, k 2", desk.x.setLetter(0, 2, false, 0));
        bad("setLetter, job 2", desk.x.setLetter(2, 0, false, 0));
        Desk longest = new Desk();
        longest.mustRead(0, "set abcdefghijkl = mnopqrstuvwx;", 0);
        Desk.due("the 12th byte", longest.x.setLetter(0, 0, false, 11), 'l');
        Desk.due("the 12th byte", longest.x.setLetter(0, 0, true, 11), 'x');
        none("the 13th byte", longest.x.setLetter(0, 0, true, 12));
    }

    // Promise 16
    private static void loop() {
        Desk desk = rich();
        Desk.due("first", desk.x.loop(0, 0, 0), 2);
        Desk.due("second", desk.x.loop(0, 0, 1), 2);
        for (int odd : ODD) {
            bad("loop, job " + odd, desk.x.loop(odd, 0, 0));
            bad("loop, k " + odd, desk.x.loop(0, odd, 0));
            bad("loop, what " + odd, desk.x.loop(0, 0, odd));
            bad("loop, not read, what " + odd, desk.x.loop(1, 0, odd));
            state("loop, not read", desk.x.loop(1, odd, 1));
        }
        bad("loop, k 1", desk.x.loop(0, 1, 0));
        bad("loop, what 2", desk.x.loop(0, 0, 2));
        desk.mustRead(1, "source s; op u: union from s, s; op m: map from u;" + "loop m to u;".repeat(8), 3);
        Desk.due("the eighth", desk.x.loop(1, 7, 0), 2);
        bad("the ninth", desk.x.loop(1, 8, 0));
    }

    // Promise 17: "how many bytes. BAD; STATE."
    private static void print() {
        Desk desk = rich();
        String text = desk.printed(0);
        Desk.due("of the whole job", text.startsWith("# c\nset a = 7;\nset b = a;\nsource s par 3") ? 1 : 0, 1);
        for (int odd : ODD) {
            bad("print(" + odd + ")", desk.x.print(odd));
        }
        bad("print(2)", desk.x.print(2));
        state("print(1)", desk.x.print(1));
        Desk.due("the out stays", Desk.text(desk.x::out), text);
        Desk.due("read of an empty file", desk.x.read(1, 5), 0);
        Desk.due("print of an empty job", desk.x.print(1), 0);
        none("the out is empty", desk.x.out(0));
        Desk longest = new Desk();
        String comment = "#" + "x".repeat(60) + "\n";
        longest.putFile(1, comment.repeat(19));
        longest.mustRead(0, "use 1; use 1;", 0);
        Desk.due("38 comments", longest.x.print(0), 38 * 63);
        Desk.due("the last byte", longest.x.out(38 * 63 - 1), 10);
        none("behind it", longest.x.out(38 * 63));
    }

    // Promise 18: "Byte i of THE OUT; NONE."
    private static void out() {
        Desk desk = new Desk();
        for (int odd : ODD) {
            none("out(" + odd + ")", desk.x.out(odd));
        }
        none("out(0)", desk.x.out(0));
        desk.mustRead(0, "source s;", 1);
        none("read does not print", desk.x.out(0));
        desk.x.print(0);
        Desk.due("out(0)", desk.x.out(0), 's');
        Desk.due("out(9)", desk.x.out(9), 10);
        none("out(10)", desk.x.out(10));
        for (int odd : ODD) {
            none("out(" + odd + ")", desk.x.out(odd));
        }
    }

    /** Comments that print as so many bytes, 1198 or a few more. */
    private static String comments(int bytes) {
        return ("#" + "x".repeat(60) + "\n").repeat(18) + "#" + "y".repeat(57) + "\n#" + "z".repeat(bytes - 1197);
    }

    // Promise 19: "THE OUT (up to its first 1200 bytes) becomes THE TAPE: how many bytes."
    private static void take() {
        Desk desk = new Desk();
        desk.typeText("abc");
        Desk.due("take of nothing", desk.x.take(), 0);
        Desk.due("the tape is empty", desk.x.cut(0), 0);
        for (int bytes = 1198; bytes <= 1203; bytes++) {
            Desk page = new Desk();
            page.mustRead(0, comments(bytes), 0);
            page.typeText("abc");
            String text = page.printed(0);
            Desk.due("the page's bytes", text.length(), bytes);
            Desk.due("take of " + bytes, page.x.take(), Math.min(bytes, 1200));
            Desk.due("type behind it", page.x.type('a', 1), bytes < 1200 ? bytes + 1 : JobText.FULL);
            Desk.due("the out stays", Desk.text(page.x::out), text);
            Desk.due("take again", page.x.take(), Math.min(bytes, 1200));
            Desk.due("file", page.x.file(1), Math.min(bytes, 1200));
            Desk.due("its bytes", Desk.text(i -> page.x.byteOf(1, i)), text.substring(0, Math.min(bytes, 1200)));
        }
        Desk rich = rich();
        String text = rich.printed(0);
        Desk.due("take", rich.x.take(), text.length());
        Desk.due("file of what was taken", rich.x.file(1), text.length());
        Desk.due("read of it", rich.x.read(1, 1), RICH_OPERATORS);
        Desk.due("printed again", rich.printed(1), text);
        Desk.due("no differences", rich.x.differ(), 0);
    }

    // Promise 20: "STATE: not both JOBS were read."
    private static void differ() {
        Desk desk = new Desk();
        state("none is read", desk.x.differ());
        desk.mustRead(1, "source s;", 1);
        state("only 1 is read", desk.x.differ());
        desk.mustRead(0, "", 0);
        Desk.due("an empty one", desk.x.differ(), 1);
        desk.x.drop(1);
        state("only 0 is read", desk.x.differ());
        desk.mustRead(1, "", 0);
        Desk.due("two empty ones", desk.x.differ(), 0);
        bad("no difference", desk.x.difference(0, 0));
        desk.mustRead(0, sources("a", 0, 40), 40);
        Desk.due("the most of job 0", desk.x.differ(), 40);
        desk.mustRead(1, sources("a", 0, 40).replace(";", " par 1;"), 40);
        Desk.due("forty that are not alike", desk.x.differ(), 40);
        desk.mustRead(1, sources("b", 0, 40), 40);
        Desk.due("the most", desk.x.differ(), 80);
    }

    // Promise 21: "Of DIFFERENCE i as found latest"
    private static void difference() {
        Desk desk = rich();
        bad("nothing was found yet", desk.x.difference(0, 0));
        Desk.due("read of an empty file", desk.x.read(1, 5), 0);
        Desk.due("differ()", desk.x.differ(), RICH_OPERATORS);
        for (int odd : ODD) {
            bad("difference(" + odd + ", 0)", desk.x.difference(odd, 0));
            bad("difference(0, " + odd + ")", desk.x.difference(0, odd));
        }
        for (int what = 0; what < 3; what++) {
            Desk.due("the last one", desk.x.difference(3, what), new int[] {1, 3, 0}[what]);
            bad("behind it", desk.x.difference(4, what));
        }
        bad("what is 3", desk.x.difference(0, 3));
        desk.mustRead(1, RICH, RICH_OPERATORS);
        Desk.due("as found latest", desk.x.difference(3, 0), 1);
        Desk.due("differ()", desk.x.differ(), 0);
        bad("no difference", desk.x.difference(0, 0));
        desk.mustRead(1, "source c; op b: map from s; source s key k; source t;", 4);
        Desk.due("all that differs", desk.differences(), "2 0 140, 2 1 215, 1 2 0, 2 3 3, 3 3 0");
    }

    // Promise 22: "How many NUMBERS there are."
    private static void numbers() {
        Desk desk = new Desk();
        desk.mustRead(0, "", 0);
        Desk.due("of an empty job", desk.x.numbers(), 0);
        desk.mustRead(0, "set a = b; source c side d key e;", 1);
        Desk.due("operators alone", desk.x.numbers(), 1);
        desk.mustRead(1, "source c;", 1);
        Desk.due("a name known", desk.x.numbers(), 1);
        desk.mustFail(10, "source d; op e: ^map from d, d;");
        Desk.due("a fault", desk.x.numbers(), 1);
        desk.mustRead(0, sources("a", 0, 40), 40);
        Desk.due("forty more", desk.x.numbers(), 41);
        desk.x.drop(0);
        desk.x.drop(1);
        Desk.due("they live on", desk.x.numbers(), 41);
    }

    // Promise 23: "BAD: no such NUMBER."
    private static void numbered() {
        Desk desk = new Desk();
        bad("no number", desk.x.numbered(0, 0));
        desk.mustRead(0, "source abcdefghijkl; source m;", 2);
        Desk.due("the 12th byte", desk.x.numbered(0, 11), 'l');
        none("the 13th byte", desk.x.numbered(0, 12));
        Desk.due("the first byte", desk.x.numbered(1, 0), 'm');
        none("the second byte", desk.x.numbered(1, 1));
        bad("the next number", desk.x.numbered(2, 0));
        for (int odd : ODD) {
            bad("numbered(" + odd + ", 0)", desk.x.numbered(odd, 0));
            bad("BAD ahead of NONE", desk.x.numbered(odd, odd));
            none("numbered(0, " + odd + ")", desk.x.numbered(0, odd));
        }
        Desk full = new Desk();
        for (int i = 0; i < 5; i++) {
            full.mustRead(0, sources("a", 40 * i, 40), 40);
        }
        Desk.due("the last number", Desk.text(i -> full.x.numbered(199, i)), "a199");
        bad("behind it", full.x.numbered(200, 0));
    }

    // "What is refused changes nothing, but as told."
    private static void refusedChangesNothing() {
        Desk desk = rich();
        desk.mustRead(1, "source s; source t;", 2);
        String page = desk.printed(0);
        int many = desk.x.differ();
        desk.mustFail(1, "source s ^)");
        desk.x.drop(1);
        desk.typeText("tape");
        bad("type", desk.x.type(Desk.word("abc\tdefg"), 8));
        bad("type", desk.x.type('a', 9));
        bad("cut", desk.x.cut(5));
        bad("file", desk.x.file(6));
        bad("read", desk.x.read(2, 0));
        bad("read", desk.x.read(1, 6));
        bad("drop", desk.x.drop(2));
        state("drop", desk.x.drop(1));
        bad("fault", desk.x.fault(4));
        bad("print", desk.x.print(2));
        state("print", desk.x.print(1));
        state("differ", desk.x.differ());
        bad("difference", desk.x.difference(many, 0));
        desk.dueFault("the fault stays", 1, 0, 9, Desk.bits("; par rate key side"));
        Desk.due("the out stays", Desk.text(desk.x::out), page);
        Desk.due("the differences stay", desk.x.difference(many - 1, 0), 3);
        Desk.due("the numbers stay", desk.x.numbers(), RICH_OPERATORS + 1);
        Desk.due("the file stays", Desk.text(i -> desk.x.byteOf(0, i)), "source s )");
        Desk.due("the tape stays", desk.x.file(3), 4);
        Desk.due("its bytes", Desk.text(i -> desk.x.byteOf(3, i)), "tape");
        Desk.due("the job stays", desk.printed(0), page);
    }

    // "An object is used for at most 512 calls after it has been made"
    private static void callsUpToTheLast() {
        JobText x = new JobText();
        for (int call = 1; call <= 500; call++) {
            Desk.due("call " + call, call % 2 == 1 ? x.type('a', 1) : x.cut(1), call % 2);
        }
        Desk.due("call 501", x.type(Desk.word("source a"), 8), 8);
        Desk.due("call 502", x.type(';', 1), 9);
        Desk.due("call 503", x.file(0), 9);
        Desk.due("call 504", x.read(0, 0), 1);
        Desk.due("call 505", x.read(1, 0), 1);
        Desk.due("call 506", x.print(0), 10);
        Desk.due("call 507", x.take(), 10);
        Desk.due("call 508", x.differ(), 0);
        Desk.due("call 509", x.numbers(), 1);
        Desk.due("call 510", x.numbered(0, 0), 'a');
        Desk.due("call 511", x.out(9), 10);
        Desk.due("call 512", x.drop(0), 1);
    }
}
