/** What the tests share: an object of JobText with calls made of texts, and a count of wrong answers. */
final class Desk {
    private static int answers = 0;
    private static int wrong = 0;

    final JobText x = new JobText();

    static void due(String call, long got, long want) {
        answers++;
        if (got != want) {
            wrong++;
            System.out.println(call + " answered " + got + ", due is " + want);
        }
    }

    static void due(String call, String got, String want) {
        answers++;
        if (!got.equals(want)) {
            wrong++;
            System.out.println(call + " answered\n" + got + "\ndue is\n" + want);
        }
    }

    static int wrongAnswers() {
        return wrong;
    }

    static void end() {
        System.out.println(wrong == 0 ? answers + " answers are as due" : wrong + " answers are not as due");
        System.exit(wrong == 0 ? 0 : 1);
    }

    interface ByteAt {
        int at(int i);
    }

    static String text(ByteAt bytes) {
        StringBuilder text = new StringBuilder();
        for (int i = 0; bytes.at(i) >= 0; i++) {
            text.append((char) bytes.at(i));
        }
        return text.toString();
    }

    /** The bytes of up to eight characters, as type() wants them. */
    static long word(String text) {
        long word = 0;
        for (int i = 0; i < text.length(); i++) {
            word = word << 8 | text.charAt(i);
        }
        return word;
    }

    void typeText(String text) {
        for (int i = 0; i < text.length(); i += 8) {
            String piece = text.substring(i, Math.min(text.length(), i + 8));
            x.type(word(piece), piece.length());
        }
    }

    void putFile(int k, String text) {
        typeText(text);
        due("file(" + k + ")", x.file(k), text.length());
    }

    int readText(int job, String text) {
        putFile(0, text);
        return x.read(job, 0);
    }

    /** The text is read without a fault. */
    void mustRead(int job, String text, int operators) {
        due("read of " + text, readText(job, text), operators);
        dueFault(text, 0, JobText.NONE, JobText.NONE, 0);
    }

    /** The text has a fault in file 0 where the mark ^ stands in it. */
    void mustFail(int fault, String marked) {
        int place = marked.indexOf('^');
        String text = marked.substring(0, place) + marked.substring(place + 1);
        due("read of " + marked, readText(0, text), -10 - fault);
        due("fault(0) of " + marked, x.fault(0), fault);
        due("fault(1) of " + marked, x.fault(1), 0);
        due("fault(2) of " + marked, x.fault(2), place);
        if (fault != 1) {
            due("fault(3) of " + marked, x.fault(3), 0);
        }
    }

    void mustExpect(String marked, String things) {
        mustFail(1, marked);
        due("fault(3) of " + marked, x.fault(3), bits(things));
    }

    void dueFault(String text, int what, int file, int place, int expected) {
        due("fault(0) of " + text, x.fault(0), what);
        due("fault(1) of " + text, x.fault(1), file);
        due("fault(2) of " + text, x.fault(2), place);
        due("fault(3) of " + text, x.fault(3), expected);
    }

    static final String[] THINGS = ("N M ; , : . = / END use set source op loop from to par rate pass key keep "
        + "side map filter flat span join union fold sink").split(" ");

    static int bits(String things) {
        int bits = 0;
        for (String thing : things.split(" ")) {
            int bit = java.util.Arrays.asList(THINGS).indexOf(thing);
            if (bit < 0) {
                throw new IllegalArgumentException(thing);
            }
            bits |= 1 << bit;
        }
        return bits;
    }

    String printed(int job) {
        int size = x.print(job);
        String text = text(x::out);
        due("print(" + job + ") and out()", text.length(), size);
        return text;
    }

    String name(int job, int k, int what) {
        return text(i -> x.letter(job, k, what, i));
    }

    /** All that operator() tells of one. */
    String operator(int job, int k) {
        StringBuilder row = new StringBuilder();
        for (int what = 0; what <= 15; what++) {
            row.append(what == 0 ? "" : " ").append(x.operator(job, k, what));
        }
        return row.toString();
    }

    String flow(int job, int k) {
        return x.flow(job, k, 0) + "/" + x.flow(job, k, 1) + " " + x.flow(job, k, 2) + "/" + x.flow(job, k, 3);
    }

    String differences() {
        int many = x.differ();
        StringBuilder rows = new StringBuilder();
        for (int i = 0; i < many; i++) {
            rows.append(i == 0 ? "" : ", ").append(x.difference(i, 0)).append(' ').append(x.difference(i, 1))
                .append(' ').append(x.difference(i, 2));
        }
        return rows.toString();
    }

    static String repeat(int times, String text) {
        return text.repeat(times);
    }
}
