/** Promises 1 to 5: a new object, type, cut, file, byteOf. */
public final class BytesTest {
    public static void main(String[] args) {
        newObject();
        typing();
        fullTape();
        cutting();
        filing();
        Desk.end();
    }

    private static void newObject() {
        JobText x = new JobText();
        for (int k = 0; k < 6; k++) {
            Desk.due("new: byteOf(" + k + ", 0)", x.byteOf(k, 0), JobText.NONE);
        }
        Desk.due("new: cut(1)", x.cut(1), JobText.BAD);
        Desk.due("new: cut(0)", x.cut(0), 0);
        Desk.due("new: out(0)", x.out(0), JobText.NONE);
        Desk.due("new: take()", x.take(), 0);
        Desk.due("new: numbers()", x.numbers(), 0);
        Desk.due("new: numbered(0, 0)", x.numbered(0, 0), JobText.BAD);
        Desk.due("new: count(0, 0)", x.count(0, 0), JobText.STATE);
        Desk.due("new: count(1, 0)", x.count(1, 0), JobText.STATE);
        Desk.due("new: drop(0)", x.drop(0), JobText.STATE);
        Desk.due("new: differ()", x.differ(), JobText.STATE);
        Desk.due("new: difference(0, 0)", x.difference(0, 0), JobText.BAD);
        Desk.due("new: fault(0)", x.fault(0), 0);
        Desk.due("new: fault(1)", x.fault(1), JobText.NONE);
        Desk.due("new: fault(2)", x.fault(2), JobText.NONE);
        Desk.due("new: fault(3)", x.fault(3), 0);
    }

    private static void typing() {
        Desk desk = new Desk();
        JobText x = desk.x;
        Desk.due("type abc", x.type(Desk.word("abc"), 3), 3);
        Desk.due("type of low bytes alone", x.type(Desk.word("\tzyd"), 1), 4);
        Desk.due("type(.., 0)", x.type(Desk.word("a"), 0), JobText.BAD);
        Desk.due("type(.., 9)", x.type(Desk.word("a"), 9), JobText.BAD);
        Desk.due("type(.., -1)", x.type(Desk.word("a"), -1), JobText.BAD);
        for (int b = 0; b < 256; b++) {
            boolean fine = b == 10 || b >= 32 && b <= 126;
            Desk.due("type of byte " + b, new JobText().type(b, 1), fine ? 1 : JobText.BAD);
            Desk.due("type of byte " + b + " first", new JobText().type(b << 8 | 'a', 2), fine ? 2 : JobText.BAD);
        }
        Desk.due("type of eight bytes, the highest negative", x.type(-1L << 56 | Desk.word("abcdefg"), 8), JobText.BAD);
        Desk.due("type of eight bytes", x.type(Desk.word("~ efghij"), 8), 12);
        Desk.due("file(3)", x.file(3), 12);
        Desk.due("what was typed", Desk.text(i -> x.byteOf(3, i)), "abcd~ efghij");
    }

    private static void fullTape() {
        Desk desk = new Desk();
        desk.typeText(Desk.repeat(1196, "a"));
        Desk.due("type over the end", desk.x.type(Desk.word("bcdef"), 5), JobText.FULL);
        Desk.due("type wrong bytes over the end", desk.x.type(7, 8), JobText.BAD);
        Desk.due("type up to the end", desk.x.type(Desk.word("bcde"), 4), 1200);
        Desk.due("type behind the end", desk.x.type(Desk.word("f"), 1), JobText.FULL);
        Desk.due("file of a full tape", desk.x.file(5), 1200);
        Desk.due("byteOf(5, 1199)", desk.x.byteOf(5, 1199), 'e');
        Desk.due("byteOf(5, 1200)", desk.x.byteOf(5, 1200), JobText.NONE);
    }

    private static void cutting() {
        Desk desk = new Desk();
        desk.typeText("abcdef");
        Desk.due("cut(7)", desk.x.cut(7), JobText.BAD);
        Desk.due("cut(-1)", desk.x.cut(-1), JobText.BAD);
        Desk.due("cut(0)", desk.x.cut(0), 6);
        Desk.due("cut(2)", desk.x.cut(2), 4);
        desk.typeText("x");
        Desk.due("file(0)", desk.x.file(0), 5);
        Desk.due("what is left", Desk.text(i -> desk.x.byteOf(0, i)), "abcdx");
        desk.typeText("ab");
        Desk.due("cut of all", desk.x.cut(2), 0);
    }

    private static void filing() {
        Desk desk = new Desk();
        desk.typeText("abc");
        Desk.due("file(6)", desk.x.file(6), JobText.BAD);
        Desk.due("file(-1)", desk.x.file(-1), JobText.BAD);
        Desk.due("file(2)", desk.x.file(2), 3);
        Desk.due("the tape is empty then", desk.x.cut(1), JobText.BAD);
        Desk.due("byteOf(6, 0)", desk.x.byteOf(6, 0), JobText.BAD);
        Desk.due("byteOf(-1, 0)", desk.x.byteOf(-1, 0), JobText.BAD);
        Desk.due("byteOf(2, -1)", desk.x.byteOf(2, -1), JobText.NONE);
        Desk.due("byteOf(2, 3)", desk.x.byteOf(2, 3), JobText.NONE);
        Desk.due("byteOf(2, 2)", desk.x.byteOf(2, 2), 'c');
        Desk.due("byteOf(1, 0)", desk.x.byteOf(1, 0), JobText.NONE);
        Desk.due("file of nothing", desk.x.file(2), 0);
        Desk.due("byteOf of an empty file", desk.x.byteOf(2, 0), JobText.NONE);
    }
}
