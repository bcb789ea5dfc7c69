/**
 * Texts of jobs: sources, operators, joins, outputs in a small language of files that use one
 * another. Texts are read, judged, laid out, printed and compared; refusals are answers.
 */
public final class JobText {
    public static final int BAD = -1, STATE = -2, FULL = -3, NONE = -5;

    private static final int FILES = 6;
    private static final int FILE_BYTES = 1200;
    private static final int JOBS = 2;
    private static final int OPERATORS = 40;
    private static final int SETS = 16;
    private static final int LOOPS = 8;
    private static final int INPUTS = 4;
    private static final int SIDES = 3;
    private static final int USES = 30;
    private static final int COMMENTS = 40;
    private static final int COMMENT_BYTES = 60;
    private static final int NUMBERS = 200;
    private static final int NAME_BYTES = 12;
    private static final int NUMBER_DIGITS = 5;

    // The longest operator prints as 160 bytes, a set as 33, a loop as 35, a comment as 63.
    private static final int PAGE_BYTES = 160 * OPERATORS + 33 * SETS + 35 * LOOPS + 63 * COMMENTS;

    private static final int NEW_LINE = 10;
    private static final int BLANK = 32;

    // The things that may stand at a place, each as its bit; a wrong token has none.
    private static final int OWN_NAME = 1;
    private static final int NUMBER = 1 << 1;
    private static final int SEMICOLON = 1 << 2;
    private static final int COMMA = 1 << 3;
    private static final int COLON = 1 << 4;
    private static final int DOT = 1 << 5;
    private static final int EQUALS = 1 << 6;
    private static final int SLASH = 1 << 7;
    private static final int END = 1 << 8;
    private static final int USE = 1 << 9;
    private static final int SET = 1 << 10;
    private static final int SOURCE = 1 << 11;
    private static final int OP = 1 << 12;
    private static final int LOOP = 1 << 13;
    private static final int FROM = 1 << 14;
    private static final int TO = 1 << 15;
    private static final int PAR = 1 << 16;
    private static final int RATE = 1 << 17;
    private static final int PASS = 1 << 18;
    private static final int KEY = 1 << 19;
    private static final int KEEP = 1 << 20;
    private static final int SIDE = 1 << 21;
    private static final int ALL_KINDS = 255 << 22;
    private static final int FIRST_MARK_BIT = 2;
    private static final int FIRST_KEY_BIT = 9;
    private static final int KEYS = 21;
    private static final int KIND_BITS_BEFORE = 21;

    private static final int KIND_SOURCE = 0;
    private static final int KIND_MAP = 1;
    private static final int KIND_FILTER = 2;
    private static final int KIND_FLAT = 3;
    private static final int KIND_SPAN = 4;
    private static final int KIND_JOIN = 5;
    private static final int KIND_UNION = 6;
    private static final int KIND_FOLD = 7;
    private static final int KIND_SINK = 8;

    // Which properties an operator may have, by its kind.
    private static final int[] PROPERTIES = {
        PAR | RATE | KEY | SIDE,
        PAR | PASS | KEY | SIDE,
        PAR | PASS | KEY | SIDE,
        PAR | PASS | KEY | SIDE,
        PAR | PASS | KEEP | SIDE,
        PAR | PASS | KEEP | SIDE,
        PAR | KEY,
        PAR | PASS | KEEP | SIDE,
        PAR
    };

    private static final int UNREADABLE = 1;
    private static final int OUT_OF_BOUNDS = 2;
    private static final int TOO_MANY = 3;
    private static final int USES_ITSELF = 4;
    private static final int TOLD_TWICE = 6;
    private static final int NO_OPERATOR = 7;
    private static final int NO_SIDE = 8;
    private static final int FROM_SINK = 9;
    private static final int INPUT_COUNT = 10;
    private static final int NO_UNION = 12;
    private static final int COMES_TO_ITSELF = 13;
    private static final int LOOP_AHEAD = 14;
    private static final int NOT_KEYED = 15;

    private static final int DIFFERENCE_FIELDS = 3;

    private final Bytes tape;
    private final Bytes[] files;
    private final Bytes page;
    private final Job[] jobs;
    // A read goes into this one, so that a fault leaves the job as it was.
    private Job spare;
    private final Fault latest;
    private final Reader reader;
    private final Judge judge;
    private final long[] numberNames;
    private int numberCount;
    private final int[] differences;
    private int differenceCount;

    public JobText() {
        Bytes[] emptyFiles = new Bytes[FILES];
        for (int k = 0; k < FILES; k++) {
            emptyFiles[k] = new Bytes(FILE_BYTES);
        }
        Fault noFault = new Fault();
        tape = new Bytes(FILE_BYTES);
        files = emptyFiles;
        page = new Bytes(PAGE_BYTES);
        jobs = new Job[JOBS];
        for (int k = 0; k < JOBS; k++) {
            jobs[k] = new Job();
        }
        Job emptyJob = new Job();
        spare = emptyJob;
        latest = noFault;
        reader = new Reader(emptyFiles, noFault, emptyJob);
        judge = new Judge(noFault);
        numberNames = new long[NUMBERS];
        differences = new int[2 * OPERATORS * DIFFERENCE_FIELDS];
    }

    // ---- 1 bytes

    public int type(long w, int n) {
        if (n < 1 || n > 8) {
            return BAD;
        }
        for (int i = 0; i < n; i++) {
            if (!isTextByte(lowByte(w, i))) {
                return BAD;
            }
        }
        if (tape.size + n > FILE_BYTES) {
            return FULL;
        }
        for (int i = n - 1; i >= 0; i--) {
            tape.add(lowByte(w, i));
        }
        return tape.size;
    }

    public int cut(int n) {
        if (n < 0 || n > tape.size) {
            return BAD;
        }
        tape.size -= n;
        return tape.size;
    }

    public int file(int k) {
        if (!isFile(k)) {
            return BAD;
        }
        files[k].become(tape, 0, tape.size);
        tape.clear();
        return files[k].size;
    }

    public int byteOf(int file, int i) {
        if (!isFile(file)) {
            return BAD;
        }
        return files[file].at(i);
    }

    // ---- 2 reading

    public int read(int job, int file) {
        if (!isJob(job) || !isFile(file)) {
            return BAD;
        }
        latest.clear();
        reader.readText(spare, file);
        if (latest.what == 0) {
            judge.judgeText(spare);
        }
        if (latest.what != 0) {
            return -10 - latest.what;
        }
        if (numberCount + newNames(spare) > NUMBERS) {
            return FULL;
        }
        giveNumbers(spare);
        spare.layout.reckon(spare);
        putJob(job);
        return jobs[job].operatorCount;
    }

    public int drop(int job) {
        if (!isJob(job)) {
            return BAD;
        }
        if (!jobs[job].isRead) {
            return STATE;
        }
        jobs[job].isRead = false;
        return 1;
    }

    public int fault(int what) {
        switch (what) {
            case 0:
                return latest.what;
            case 1:
                return latest.file;
            case 2:
                return latest.place;
            case 3:
                return latest.expected;
            default:
                return BAD;
        }
    }

    // ---- 3 what a job is

    public int count(int job, int what) {
        int refusal = refusal(job, what, 7);
        return refusal != 0 ? refusal : jobs[job].howMany(what);
    }

    public int operator(int job, int k, int what) {
        int refusal = operatorRefusal(job, k, what, 15);
        if (refusal != 0) {
            return refusal;
        }
        return what >= 11 ? jobs[job].layout.laid(k, what) : jobs[job].operators[k].told(what);
    }

    public int letter(int job, int k, int what, int i) {
        int refusal = operatorRefusal(job, k, what, 4);
        if (refusal != 0) {
            return refusal;
        }
        Operator operator = jobs[job].operators[k];
        if (what == 0) {
            return nameByte(operator.name, i);
        }
        if (what == 1) {
            return nameByte(jobs[job].layout.keyedBy[k], i);
        }
        return what - 2 < operator.sideCount ? nameByte(operator.sides[what - 2], i) : NONE;
    }

    public int input(int job, int k, int j, int what) {
        int refusal = operatorRefusal(job, k, what, 1);
        if (refusal != 0) {
            return refusal;
        }
        Operator operator = jobs[job].operators[k];
        if (j < 0 || j >= operator.inputCount) {
            return BAD;
        }
        return what == 0 ? operator.inputs[j].from : operator.inputs[j].side;
    }

    public int flow(int job, int k, int what) {
        int refusal = operatorRefusal(job, k, what, 3);
        if (refusal != 0) {
            return refusal;
        }
        Layout layout = jobs[job].layout;
        Flow flow = what < 2 ? layout.mainFlow[k] : layout.sideFlow[k];
        if (flow.big) {
            return NONE;
        }
        return (int) ((what & 1) == 0 ? flow.upper : flow.lower);
    }

    public int set(int job, int k, int what) {
        int refusal = refusal(job, what, 2);
        if (refusal != 0) {
            return refusal;
        }
        if (k < 0 || k >= jobs[job].setCount) {
            return BAD;
        }
        Pair line = jobs[job].sets[k];
        if (what == 0) {
            return line.second == 0 ? line.number : NONE;
        }
        return what == 1 ? line.file : line.firstPlace;
    }

    public int setLetter(int job, int k, boolean value, int i) {
        int refusal = refusal(job, 0, 0);
        if (refusal != 0) {
            return refusal;
        }
        if (k < 0 || k >= jobs[job].setCount) {
            return BAD;
        }
        Pair line = jobs[job].sets[k];
        return nameByte(value ? line.second : line.first, i);
    }

    public int loop(int job, int k, int what) {
        int refusal = refusal(job, what, 1);
        if (refusal != 0) {
            return refusal;
        }
        if (k < 0 || k >= jobs[job].loopCount) {
            return BAD;
        }
        Pair line = jobs[job].loops[k];
        return what == 0 ? line.firstOperator : line.secondOperator;
    }

    // ---- 4 printing, comparing, numbers

    public int print(int job) {
        int refusal = refusal(job, 0, 0);
        if (refusal != 0) {
            return refusal;
        }
        page.clear();
        jobs[job].printTo(page);
        return page.size;
    }

    public int out(int i) {
        return page.at(i);
    }

    public int take() {
        tape.become(page, 0, Math.min(page.size, FILE_BYTES));
        return tape.size;
    }

    public int differ() {
        if (!jobs[0].isRead || !jobs[1].isRead) {
            return STATE;
        }
        differenceCount = 0;
        compareFirst();
        findNew();
        return differenceCount;
    }

    public int difference(int i, int what) {
        if (i < 0 || i >= differenceCount || what < 0 || what >= DIFFERENCE_FIELDS) {
            return BAD;
        }
        return differences[i * DIFFERENCE_FIELDS + what];
    }

    public int numbers() {
        return numberCount;
    }

    public int numbered(int number, int i) {
        if (number < 0 || number >= numberCount) {
            return BAD;
        }
        return nameByte(numberNames[number], i);
    }

    // ---- refusals

    private static boolean isFile(int k) {
        return k >= 0 && k < FILES;
    }

    private static boolean isJob(int job) {
        return job >= 0 && job < JOBS;
    }

    private int refusal(int job, int what, int greatest) {
        if (!isJob(job) || what < 0 || what > greatest) {
            return BAD;
        }
        return jobs[job].isRead ? 0 : STATE;
    }

    private int operatorRefusal(int job, int k, int what, int greatest) {
        int refusal = refusal(job, what, greatest);
        if (refusal != 0) {
            return refusal;
        }
        return k < 0 || k >= jobs[job].operatorCount ? BAD : 0;
    }

    // ---- jobs, numbers, differences

    private void putJob(int job) {
        Job old = jobs[job];
        jobs[job] = spare;
        jobs[job].isRead = true;
        spare = old;
        spare.isRead = false;
    }

    private int numberOf(long name) {
        for (int i = 0; i < numberCount; i++) {
            if (numberNames[i] == name) {
                return i;
            }
        }
        return NONE;
    }

    private int newNames(Job job) {
        int fresh = 0;
        for (int k = 0; k < job.operatorCount; k++) {
            if (numberOf(job.operators[k].name) == NONE) {
                fresh++;
            }
        }
        return fresh;
    }

    private void giveNumbers(Job job) {
        for (int k = 0; k < job.operatorCount; k++) {
            Operator operator = job.operators[k];
            int number = numberOf(operator.name);
            if (number == NONE && numberCount < NUMBERS) {
                number = numberCount;
                numberNames[number] = operator.name;
                numberCount++;
            }
            operator.number = number;
        }
    }

    private void compareFirst() {
        for (int k = 0; k < jobs[0].operatorCount; k++) {
            Operator operator = jobs[0].operators[k];
            int other = jobs[1].find(operator.name);
            if (other == NONE) {
                addDifference(1, k, 0);
            } else {
                int bits = operator.differenceBits(jobs[1].operators[other]);
                if (bits != 0) {
                    addDifference(2, k, bits);
                }
            }
        }
    }

    private void findNew() {
        for (int k = 0; k < jobs[1].operatorCount; k++) {
            if (jobs[0].find(jobs[1].operators[k].name) == NONE) {
                addDifference(3, k, 0);
            }
        }
    }

    private void addDifference(int which, int k, int bits) {
        int start = differenceCount * DIFFERENCE_FIELDS;
        if (start + DIFFERENCE_FIELDS <= differences.length) {
            differences[start] = which;
            differences[start + 1] = k;
            differences[start + 2] = bits;
            differenceCount++;
        }
    }

    // ---- bytes and names

    private static int lowByte(long w, int i) {
        return (int) (w >>> (8 * i)) & 255;
    }

    private static boolean isTextByte(int b) {
        return b == NEW_LINE || b >= BLANK && b <= 126;
    }

    private static boolean isSmallLetter(int b) {
        return b >= 'a' && b <= 'z';
    }

    private static boolean isDigit(int b) {
        return b >= '0' && b <= '9';
    }

    private static boolean isWordByte(int b) {
        return isSmallLetter(b) || isDigit(b);
    }

    // A name is held as a number to the base 37, which has room for 12 letters in a long;
    // no letter is 0, so that 0 is no name and no two names are one number.
    private static long longerName(long name, int b) {
        return name * 37 + (isDigit(b) ? b - '0' + 27 : b - 'a' + 1);
    }

    private static int nameLength(long name) {
        int length = 0;
        long rest = name;
        while (length < NAME_BYTES && rest > 0) {
            rest /= 37;
            length++;
        }
        return length;
    }

    private static int nameByte(long name, int i) {
        int length = nameLength(name);
        return i < 0 || i >= length ? NONE : nameByteFromEnd(name, length - 1 - i);
    }

    private static int nameByteFromEnd(long name, int behind) {
        long rest = name;
        for (int i = 0; i < behind; i++) {
            rest /= 37;
        }
        int letter = (int) (rest % 37);
        return letter >= 27 ? letter - 27 + '0' : letter - 1 + 'a';
    }

    /** A row of bytes, as long as it may become. */
    private static final class Bytes {
        private final byte[] row;
        int size;

        Bytes(int most) {
            row = new byte[Math.max(most, 0)];
        }

        void clear() {
            size = 0;
        }

        int at(int i) {
            return i < 0 || i >= size ? NONE : row[i];
        }

        void add(int b) {
            if (size < row.length) {
                row[size] = (byte) b;
                size++;
            }
        }

        void become(Bytes other, int from, int end) {
            clear();
            for (int i = from; i < end; i++) {
                add(other.at(i));
            }
        }

        void addBytes(Bytes other) {
            for (int i = 0; i < other.size; i++) {
                add(other.at(i));
            }
        }

        void addText(String text) {
            for (int i = 0; i < text.length(); i++) {
                add(text.charAt(i));
            }
        }

        void addName(long name) {
            for (int behind = nameLength(name) - 1; behind >= 0; behind--) {
                add(nameByteFromEnd(name, behind));
            }
        }

        void addNumber(int number) {
            int unit = 10000;
            for (int i = 0; i < NUMBER_DIGITS && unit > 0; i++) {
                if (number >= unit || unit == 1) {
                    add('0' + number / unit % 10);
                }
                unit /= 10;
            }
        }
    }

    /** What is wrong with the text read latest, and where. */
    private static final class Fault {
        int what;
        int file;
        int place;
        int expected;

        Fault() {
            file = NONE;
            place = NONE;
        }

        void clear() {
            what = 0;
            file = NONE;
            place = NONE;
            expected = 0;
        }

        void tell(int itsWhat, int itsFile, int itsPlace) {
            what = itsWhat;
            file = itsFile;
            place = itsPlace;
            expected = 0;
        }
    }

    /** The tokens of what is read, from one file into another and back. */
    private static final class Words {
        private static final String KEY_WORDS =
            "use set source op loop from to par rate pass key keep side map filter flat span join union fold sink";
        private static final String MARKS = ";,:.=/";
        private final long[] keys;
        private final Bytes[] files;
        private final Fault fault;
        private Job job;
        // The files that are being read, each with the place at which it goes on.
        private final int[] openFiles;
        private final int[] openPlaces;
        int depth;
        private int next;
        // Of the token looked at: what it is, and where.
        int thing;
        int file;
        int place;
        int value;
        long name;

        Words(Bytes[] theFiles, Fault theFault, Job firstJob) {
            files = theFiles;
            fault = theFault;
            job = firstJob;
            openFiles = new int[FILES];
            openPlaces = new int[FILES];
            keys = new long[KEYS];
            int key = 0;
            for (int i = 0; i < KEY_WORDS.length(); i++) {
                if (KEY_WORDS.charAt(i) == ' ') {
                    key++;
                } else if (key < KEYS) {
                    keys[key] = longerName(keys[key], KEY_WORDS.charAt(i));
                }
            }
        }

        void begin(Job theJob, int first) {
            job = theJob;
            depth = 0;
            open(first);
        }

        void open(int inner) {
            if (depth >= FILES || !isFile(inner)) {
                return;
            }
            if (depth > 0) {
                openPlaces[depth - 1] = next;
            }
            openFiles[depth] = inner;
            depth++;
            file = inner;
            next = 0;
        }

        void close() {
            if (depth > 0) {
                depth--;
            }
            if (depth > 0) {
                file = openFiles[depth - 1];
                next = openPlaces[depth - 1];
            }
        }

        boolean isOpen(int asked) {
            for (int i = 0; i < depth; i++) {
                if (openFiles[i] == asked) {
                    return true;
                }
            }
            return false;
        }

        void look() {
            place = next;
            int b = here();
            if (b == NONE) {
                thing = END;
            } else if (isSmallLetter(b)) {
                lookAtName();
            } else if (isDigit(b)) {
                lookAtNumber();
            } else {
                int mark = MARKS.indexOf((char) b);
                thing = mark < 0 ? 0 : 1 << FIRST_MARK_BIT + mark;
                next++;
            }
        }

        private int here() {
            return files[file].at(next);
        }

        void skipToToken() {
            for (int i = 0; i <= FILE_BYTES && fault.what == 0; i++) {
                int b = here();
                if (b == '#') {
                    meetComment();
                } else if (b == NEW_LINE || b == BLANK) {
                    next++;
                } else {
                    return;
                }
            }
        }

        private void meetComment() {
            Bytes text = files[file];
            int mark = next;
            int end = mark + 1;
            while (end < text.size && text.at(end) != NEW_LINE) {
                end++;
            }
            next = end;
            int first = mark + 1;
            while (first < end && text.at(first) == BLANK) {
                first++;
            }
            while (end > first && text.at(end - 1) == BLANK) {
                end--;
            }
            if (job.commentCount >= COMMENTS || end - first > COMMENT_BYTES) {
                fault.tell(TOO_MANY, file, mark);
            } else {
                job.addComment(text, first, end);
            }
        }

        private void lookAtName() {
            name = 0;
            while (next < files[file].size && isWordByte(here())) {
                name = longerName(name, here());
                next++;
            }
            if (next - place > NAME_BYTES) {
                thing = 0;
                return;
            }
            thing = OWN_NAME;
            for (int key = 0; key < KEYS; key++) {
                if (keys[key] == name) {
                    thing = 1 << FIRST_KEY_BIT + key;
                }
            }
        }

        private void lookAtNumber() {
            boolean zeroAhead = here() == '0';
            value = 0;
            while (next < files[file].size && isDigit(here())) {
                value = value * 10 + here() - '0';
                next++;
            }
            int digits = next - place;
            boolean wrong = digits > NUMBER_DIGITS || zeroAhead && digits > 1 || isSmallLetter(here());
            while (next < files[file].size && isWordByte(here())) {
                next++;
            }
            thing = wrong ? 0 : NUMBER;
        }
    }

    /** Reads a text token by token; what may stand next hangs on the state alone. */
    private static final class Reader {
        private static final int AT_STATEMENT = 0;
        private static final int AT_USE_NUMBER = 1;
        private static final int AT_USE_END = 2;
        private static final int AT_SET_NAME = 3;
        private static final int AT_SET_EQUALS = 4;
        private static final int AT_SET_VALUE = 5;
        private static final int AT_LOOP_FIRST = 6;
        private static final int AT_LOOP_TO = 7;
        private static final int AT_LOOP_SECOND = 8;
        private static final int AT_LINE_END = 9;
        private static final int AT_SOURCE_NAME = 10;
        private static final int AT_OP_NAME = 11;
        private static final int AT_OP_COLON = 12;
        private static final int AT_OP_KIND = 13;
        private static final int AT_OP_FROM = 14;
        private static final int AT_INPUT = 15;
        private static final int AT_INPUT_SIDE = 16;
        private static final int AT_PAR = 17;
        private static final int AT_RATE = 18;
        private static final int AT_PASS_UPPER = 19;
        private static final int AT_PASS_SLASH = 20;
        private static final int AT_PASS_LOWER = 21;
        private static final int AT_KEY = 22;
        private static final int AT_KEEP = 23;
        private static final int AT_SIDE = 24;
        // From here on the operator may end, or tell one more property.
        private static final int BEHIND_INPUT = 25;
        private static final int BEHIND_INPUT_SIDE = 26;
        private static final int BEHIND_PROPERTY = 27;
        private static final int BEHIND_SIDE = 28;

        private static final int[] MAY_STAND = {
            END | USE | SET | SOURCE | OP | LOOP,
            NUMBER, SEMICOLON,
            OWN_NAME, EQUALS, OWN_NAME | NUMBER,
            OWN_NAME, TO, OWN_NAME, SEMICOLON,
            OWN_NAME, OWN_NAME, COLON, ALL_KINDS, FROM,
            OWN_NAME, OWN_NAME,
            NUMBER, NUMBER, NUMBER, SLASH, NUMBER, OWN_NAME, NUMBER, OWN_NAME,
            SEMICOLON | COMMA | DOT, SEMICOLON | COMMA, SEMICOLON, SEMICOLON | COMMA
        };
        // Each token takes a byte or ends a file, and so many files are read at most.
        private static final int TOKENS = (USES + 1) * (FILE_BYTES + 1);

        private final Words words;
        private final Fault fault;
        private Job job;
        private int state;
        private int uses;
        private int usePlace;
        private int useFile;
        private Operator operator;
        private Pair line;
        private int propertiesLeft;

        Reader(Bytes[] files, Fault theFault, Job firstJob) {
            words = new Words(files, theFault, firstJob);
            fault = theFault;
            job = firstJob;
            operator = new Operator();
            line = new Pair();
        }

        void readText(Job into, int first) {
            job = into;
            job.clear();
            uses = 0;
            state = AT_STATEMENT;
            words.begin(job, first);
            for (int i = 0; i < TOKENS && words.depth > 0 && fault.what == 0; i++) {
                words.skipToToken();
                if (fault.what == 0) {
                    words.look();
                    meetToken();
                }
            }
        }

        private void meetToken() {
            int expected = MAY_STAND[state];
            if (state >= BEHIND_INPUT) {
                expected |= propertiesLeft;
            }
            if ((expected & words.thing) == 0) {
                tellHere(UNREADABLE);
                fault.expected = expected;
            } else if (state == AT_STATEMENT) {
                beginStatement();
            } else if (state <= AT_USE_END) {
                goOnWithUse();
            } else if (state <= AT_LINE_END) {
                goOnWithLine();
            } else if (state <= AT_INPUT_SIDE) {
                goOnWithOperator();
            } else if (state < BEHIND_INPUT) {
                goOnWithProperty();
            } else {
                goOnBehind();
            }
        }

        private void tellHere(int what) {
            fault.tell(what, words.file, words.place);
        }

        private void beginStatement() {
            if (words.thing == END) {
                words.close();
                return;
            }
            if (words.thing == USE) {
                state = AT_USE_NUMBER;
                return;
            }
            job.statementCount++;
            if (words.thing == SET) {
                state = AT_SET_NAME;
            } else if (words.thing == LOOP) {
                state = AT_LOOP_FIRST;
            } else {
                state = words.thing == SOURCE ? AT_SOURCE_NAME : AT_OP_NAME;
            }
        }

        private void goOnWithUse() {
            if (state == AT_USE_NUMBER) {
                uses++;
                useFile = words.value;
                usePlace = words.place;
                if (!isFile(useFile)) {
                    tellHere(OUT_OF_BOUNDS);
                } else if (uses > USES) {
                    tellHere(TOO_MANY);
                }
                state = AT_USE_END;
            } else if (words.isOpen(useFile)) {
                fault.tell(USES_ITSELF, words.file, usePlace);
            } else {
                state = AT_STATEMENT;
                words.open(useFile);
            }
        }

        private void goOnWithLine() {
            switch (state) {
                case AT_SET_NAME:
                    beginSet();
                    state = AT_SET_EQUALS;
                    break;
                case AT_SET_EQUALS:
                    state = AT_SET_VALUE;
                    break;
                case AT_SET_VALUE:
                    line.tellSecond(words);
                    state = AT_LINE_END;
                    break;
                case AT_LOOP_FIRST:
                    beginLoop();
                    state = AT_LOOP_TO;
                    break;
                case AT_LOOP_TO:
                    state = AT_LOOP_SECOND;
                    break;
                case AT_LOOP_SECOND:
                    line.tellSecond(words);
                    state = AT_LINE_END;
                    break;
                default:
                    state = AT_STATEMENT;
                    break;
            }
        }

        private void beginSet() {
            if (job.setCount >= SETS) {
                tellHere(TOO_MANY);
                return;
            }
            for (int k = 0; k < job.setCount; k++) {
                if (job.sets[k].first == words.name) {
                    tellHere(TOLD_TWICE);
                    return;
                }
            }
            line = job.sets[job.setCount];
            line.begin(words);
            job.noteStatement(Job.IS_SET, job.setCount);
            job.setCount++;
        }

        private void beginLoop() {
            if (job.loopCount >= LOOPS) {
                tellHere(TOO_MANY);
                return;
            }
            line = job.loops[job.loopCount];
            line.begin(words);
            job.noteStatement(Job.IS_LOOP, job.loopCount);
            job.loopCount++;
        }

        private void goOnWithOperator() {
            switch (state) {
                case AT_SOURCE_NAME:
                    beginOperator();
                    tellKind(KIND_SOURCE);
                    state = BEHIND_PROPERTY;
                    break;
                case AT_OP_NAME:
                    beginOperator();
                    state = AT_OP_COLON;
                    break;
                case AT_OP_COLON:
                    state = AT_OP_KIND;
                    break;
                case AT_OP_KIND:
                    tellKind(kindOf(words.thing));
                    operator.kindPlace = words.place;
                    state = AT_OP_FROM;
                    break;
                case AT_OP_FROM:
                    state = AT_INPUT;
                    break;
                case AT_INPUT:
                    addInput();
                    state = BEHIND_INPUT;
                    break;
                default:
                    operator.tellInputSide(words);
                    state = BEHIND_INPUT_SIDE;
                    break;
            }
        }

        private void beginOperator() {
            if (job.operatorCount >= OPERATORS) {
                tellHere(TOO_MANY);
                return;
            }
            if (job.find(words.name) != NONE) {
                tellHere(TOLD_TWICE);
                return;
            }
            operator = job.operators[job.operatorCount];
            operator.begin(words);
            job.noteStatement(Job.IS_OPERATOR, job.operatorCount);
            job.operatorCount++;
        }

        private static int kindOf(int thing) {
            for (int kind = KIND_MAP; kind < KIND_SINK; kind++) {
                if (thing == 1 << KIND_BITS_BEFORE + kind) {
                    return kind;
                }
            }
            return KIND_SINK;
        }

        private void tellKind(int kind) {
            operator.kind = kind;
            propertiesLeft = PROPERTIES[kind];
        }

        private void addInput() {
            if (operator.inputCount >= INPUTS) {
                tellHere(TOO_MANY);
            } else {
                operator.addInput(words);
            }
        }

        private void goOnBehind() {
            switch (words.thing) {
                case SEMICOLON:
                    state = AT_STATEMENT;
                    break;
                case COMMA:
                    state = state == BEHIND_SIDE ? AT_SIDE : AT_INPUT;
                    break;
                case DOT:
                    state = AT_INPUT_SIDE;
                    break;
                default:
                    propertiesLeft &= ~words.thing;
                    state = propertyState(words.thing);
                    break;
            }
        }

        private static int propertyState(int thing) {
            switch (thing) {
                case PAR:
                    return AT_PAR;
                case RATE:
                    return AT_RATE;
                case PASS:
                    return AT_PASS_UPPER;
                case KEY:
                    return AT_KEY;
                case KEEP:
                    return AT_KEEP;
                default:
                    return AT_SIDE;
            }
        }

        private void goOnWithProperty() {
            switch (state) {
                case AT_PAR:
                    operator.par = boundedNumber(1, 64);
                    state = BEHIND_PROPERTY;
                    break;
                case AT_RATE:
                    operator.rate = boundedNumber(1, 99999);
                    state = BEHIND_PROPERTY;
                    break;
                case AT_PASS_UPPER:
                    operator.passUpper = boundedNumber(0, 999);
                    state = AT_PASS_SLASH;
                    break;
                case AT_PASS_SLASH:
                    state = AT_PASS_LOWER;
                    break;
                case AT_PASS_LOWER:
                    operator.passLower = boundedNumber(1, 999);
                    state = BEHIND_PROPERTY;
                    break;
                case AT_KEY:
                    operator.key = words.name;
                    state = BEHIND_PROPERTY;
                    break;
                case AT_KEEP:
                    operator.keep = boundedNumber(1, 9999);
                    state = BEHIND_PROPERTY;
                    break;
                default:
                    addSide();
                    state = BEHIND_SIDE;
                    break;
            }
        }

        private int boundedNumber(int least, int greatest) {
            if (words.value < least || words.value > greatest) {
                tellHere(OUT_OF_BOUNDS);
            }
            return words.value;
        }

        private void addSide() {
            if (operator.sideCount >= SIDES) {
                tellHere(TOO_MANY);
            } else if (operator.sideOf(words.name) != NONE) {
                tellHere(TOLD_TWICE);
            } else {
                operator.sides[operator.sideCount] = words.name;
                operator.sideCount++;
            }
        }
    }

    /** What an operator reads: the main stream of another one, or a side of it. */
    private static final class Input {
        long name;
        int place;
        // 0, where the main stream is read.
        long sideName;
        int sidePlace;
        int from;
        int side;

        boolean isLike(Input other) {
            return name == other.name && sideName == other.sideName;
        }
    }

    /** A source or an operator, as it was told; what was not told is 0. */
    private static final class Operator {
        long name;
        int kind;
        int par;
        int rate;
        int passUpper;
        int passLower;
        long key;
        int keep;
        final Input[] inputs;
        int inputCount;
        final long[] sides;
        int sideCount;
        int number;
        int file;
        int place;
        int kindPlace;

        Operator() {
            inputs = new Input[INPUTS];
            for (int j = 0; j < INPUTS; j++) {
                inputs[j] = new Input();
            }
            sides = new long[SIDES];
        }

        void begin(Words words) {
            name = words.name;
            file = words.file;
            place = words.place;
            kindPlace = words.place;
            kind = KIND_SOURCE;
            par = 0;
            rate = 0;
            passUpper = 0;
            passLower = 0;
            key = 0;
            keep = 0;
            inputCount = 0;
            sideCount = 0;
            number = NONE;
        }

        void addInput(Words words) {
            if (inputCount < INPUTS) {
                Input input = inputs[inputCount];
                input.name = words.name;
                input.place = words.place;
                input.sideName = 0;
                input.sidePlace = NONE;
                input.from = NONE;
                input.side = NONE;
                inputCount++;
            }
        }

        void tellInputSide(Words words) {
            if (inputCount > 0) {
                inputs[inputCount - 1].sideName = words.name;
                inputs[inputCount - 1].sidePlace = words.place;
            }
        }

        int sideOf(long asked) {
            for (int i = 0; i < sideCount; i++) {
                if (sides[i] == asked) {
                    return i;
                }
            }
            return NONE;
        }

        int parOrOne() {
            return par == 0 ? 1 : par;
        }

        boolean wantsKeyedInputs() {
            return kind == KIND_SPAN || kind == KIND_JOIN || kind == KIND_FOLD;
        }

        boolean hasWrongInputCount() {
            switch (kind) {
                case KIND_SOURCE:
                case KIND_SINK:
                    return false;
                case KIND_JOIN:
                    return inputCount != 2;
                case KIND_UNION:
                    return inputCount < 2;
                default:
                    return inputCount != 1;
            }
        }

        int told(int what) {
            switch (what) {
                case 0:
                    return kind;
                case 1:
                    return par;
                case 2:
                    return rate;
                case 3:
                    return passUpper;
                case 4:
                    return passLower;
                case 5:
                    return keep;
                case 6:
                    return inputCount;
                case 7:
                    return sideCount;
                case 8:
                    return number;
                case 9:
                    return file;
                default:
                    return place;
            }
        }

        int differenceBits(Operator other) {
            int bits = kind == other.kind ? 0 : 1;
            bits |= hasInputsOf(other) ? 0 : 2;
            bits |= par == other.par ? 0 : 4;
            bits |= rate == other.rate ? 0 : 8;
            bits |= passUpper == other.passUpper && passLower == other.passLower ? 0 : 16;
            bits |= key == other.key ? 0 : 32;
            bits |= keep == other.keep ? 0 : 64;
            bits |= hasSidesOf(other) ? 0 : 128;
            return bits;
        }

        private boolean hasInputsOf(Operator other) {
            if (inputCount != other.inputCount) {
                return false;
            }
            for (int j = 0; j < inputCount; j++) {
                if (!inputs[j].isLike(other.inputs[j])) {
                    return false;
                }
            }
            return true;
        }

        private boolean hasSidesOf(Operator other) {
            if (sideCount != other.sideCount) {
                return false;
            }
            for (int i = 0; i < sideCount; i++) {
                if (sides[i] != other.sides[i]) {
                    return false;
                }
            }
            return true;
        }

        void printTo(Bytes page) {
            page.addText(kind == KIND_SOURCE ? "source " : "op ");
            page.addName(name);
            if (kind != KIND_SOURCE) {
                page.addText(": ");
                page.addText(kindWord());
                page.addText(" from ");
                printInputs(page);
            }
            printNumber(page, " par ", par);
            printNumber(page, " rate ", rate);
            if (passLower != 0) {
                page.addText(" pass ");
                page.addNumber(passUpper);
                page.add('/');
                page.addNumber(passLower);
            }
            if (key != 0) {
                page.addText(" key ");
                page.addName(key);
            }
            printNumber(page, " keep ", keep);
            printSides(page);
            page.addText(";\n");
        }

        private String kindWord() {
            switch (kind) {
                case KIND_MAP:
                    return "map";
                case KIND_FILTER:
                    return "filter";
                case KIND_FLAT:
                    return "flat";
                case KIND_SPAN:
                    return "span";
                case KIND_JOIN:
                    return "join";
                case KIND_UNION:
                    return "union";
                case KIND_FOLD:
                    return "fold";
                default:
                    return "sink";
            }
        }

        private void printInputs(Bytes page) {
            for (int j = 0; j < inputCount; j++) {
                if (j > 0) {
                    page.addText(", ");
                }
                page.addName(inputs[j].name);
                if (inputs[j].sideName != 0) {
                    page.add('.');
                    page.addName(inputs[j].sideName);
                }
            }
        }

        private static void printNumber(Bytes page, String word, int number) {
            if (number != 0) {
                page.addText(word);
                page.addNumber(number);
            }
        }

        private void printSides(Bytes page) {
            for (int i = 0; i < sideCount; i++) {
                page.addText(i == 0 ? " side " : ", ");
                page.addName(sides[i]);
            }
        }
    }

    /** The two words of a set (a name and what it is) or of a loop (two operators). */
    private static final class Pair {
        long first;
        // 0, where a set tells a number.
        long second;
        int number;
        int file;
        int firstPlace;
        int secondPlace;
        int firstOperator;
        int secondOperator;

        void begin(Words words) {
            first = words.name;
            file = words.file;
            firstPlace = words.place;
            second = 0;
            number = 0;
            secondPlace = NONE;
            firstOperator = NONE;
            secondOperator = NONE;
        }

        void tellSecond(Words words) {
            if (words.thing == NUMBER) {
                number = words.value;
            } else {
                second = words.name;
            }
            secondPlace = words.place;
        }

        void printSetTo(Bytes page) {
            page.addText("set ");
            page.addName(first);
            page.addText(" = ");
            if (second == 0) {
                page.addNumber(number);
            } else {
                page.addName(second);
            }
            page.addText(";\n");
        }

        void printLoopTo(Bytes page) {
            page.addText("loop ");
            page.addName(first);
            page.addText(" to ");
            page.addName(second);
            page.addText(";\n");
        }
    }

    /** A text that was read: its statements in order, and the comments ahead of them. */
    private static final class Job {
        static final int IS_OPERATOR = 0;
        static final int IS_SET = 1;
        static final int IS_LOOP = 2;
        private static final int STATEMENTS = OPERATORS + SETS + LOOPS;

        boolean isRead;
        final Operator[] operators;
        int operatorCount;
        final Pair[] sets;
        int setCount;
        final Pair[] loops;
        int loopCount;
        private final Bytes[] comments;
        // Ahead of which statement a comment stands; behind all of them: how many there are.
        private final int[] commentOwners;
        int commentCount;
        private final int[] statementSorts;
        private final int[] statementRows;
        int statementCount;
        final Layout layout;

        Job() {
            operators = new Operator[OPERATORS];
            for (int k = 0; k < OPERATORS; k++) {
                operators[k] = new Operator();
            }
            sets = new Pair[SETS];
            for (int k = 0; k < SETS; k++) {
                sets[k] = new Pair();
            }
            loops = new Pair[LOOPS];
            for (int k = 0; k < LOOPS; k++) {
                loops[k] = new Pair();
            }
            comments = new Bytes[COMMENTS];
            for (int k = 0; k < COMMENTS; k++) {
                comments[k] = new Bytes(COMMENT_BYTES);
            }
            commentOwners = new int[COMMENTS];
            statementSorts = new int[STATEMENTS];
            statementRows = new int[STATEMENTS];
            layout = new Layout();
        }

        void clear() {
            operatorCount = 0;
            setCount = 0;
            loopCount = 0;
            commentCount = 0;
            statementCount = 0;
        }

        int find(long name) {
            for (int k = 0; k < operatorCount; k++) {
                if (operators[k].name == name) {
                    return k;
                }
            }
            return NONE;
        }

        // A statement is counted at its first word, before it is known whether it is one too many.
        void noteStatement(int sort, int row) {
            int latest = statementCount - 1;
            if (latest >= 0 && latest < STATEMENTS) {
                statementSorts[latest] = sort;
                statementRows[latest] = row;
            }
        }

        void addComment(Bytes text, int from, int end) {
            if (commentCount < COMMENTS) {
                comments[commentCount].become(text, from, end);
                commentOwners[commentCount] = statementCount;
                commentCount++;
            }
        }

        int howMany(int what) {
            switch (what) {
                case 0:
                    return operatorCount;
                case 1:
                    return setCount;
                case 2:
                    return loopCount;
                case 3:
                    return commentCount;
                case 4:
                    return layout.chains;
                case 5:
                    return layout.tasks;
                case 6:
                    return layout.channels;
                default:
                    return layout.levels;
            }
        }

        void printTo(Bytes page) {
            int comment = 0;
            for (int s = 0; s < statementCount && s < STATEMENTS; s++) {
                while (comment < commentCount && commentOwners[comment] <= s) {
                    printComment(page, comment);
                    comment++;
                }
                printStatement(page, s);
            }
            while (comment < commentCount) {
                printComment(page, comment);
                comment++;
            }
        }

        private void printComment(Bytes page, int comment) {
            page.add('#');
            if (comments[comment].size > 0) {
                page.add(BLANK);
                page.addBytes(comments[comment]);
            }
            page.add(NEW_LINE);
        }

        private void printStatement(Bytes page, int s) {
            int row = statementRows[s];
            if (statementSorts[s] == IS_OPERATOR) {
                operators[row].printTo(page);
            } else if (statementSorts[s] == IS_SET) {
                sets[row].printSetTo(page);
            } else {
                loops[row].printLoopTo(page);
            }
        }
    }

    /** Judges a text that was read: the first thing wrong with it as a whole. */
    private static final class Judge {
        private final Fault fault;
        // Of each operator: those from which one comes to it, as bits.
        private final long[] origins;

        Judge(Fault theFault) {
            fault = theFault;
            origins = new long[OPERATORS];
        }

        void judgeText(Job job) {
            for (int k = 0; k < job.operatorCount && fault.what == 0; k++) {
                judgeOperator(job, job.operators[k]);
            }
            for (int k = 0; k < job.loopCount && fault.what == 0; k++) {
                judgeLoop(job, job.loops[k]);
            }
            if (fault.what == 0) {
                findOrigins(job);
                judgeCycles(job);
            }
            for (int k = 0; k < job.loopCount && fault.what == 0; k++) {
                judgeLoopBack(job.loops[k]);
            }
            if (fault.what == 0) {
                job.layout.arrange(job);
                judgeKeys(job);
            }
        }

        private void judgeOperator(Job job, Operator operator) {
            for (int j = 0; j < operator.inputCount && fault.what == 0; j++) {
                judgeInput(job, operator, operator.inputs[j]);
            }
            if (fault.what == 0 && operator.hasWrongInputCount()) {
                fault.tell(INPUT_COUNT, operator.file, operator.kindPlace);
            }
        }

        private void judgeInput(Job job, Operator operator, Input input) {
            input.from = job.find(input.name);
            if (input.from == NONE) {
                fault.tell(NO_OPERATOR, operator.file, input.place);
                return;
            }
            Operator from = job.operators[input.from];
            input.side = input.sideName == 0 ? NONE : from.sideOf(input.sideName);
            if (input.sideName != 0 && input.side == NONE) {
                fault.tell(NO_SIDE, operator.file, input.sidePlace);
            } else if (from.kind == KIND_SINK) {
                fault.tell(FROM_SINK, operator.file, input.place);
            }
        }

        private void judgeLoop(Job job, Pair loop) {
            loop.firstOperator = job.find(loop.first);
            loop.secondOperator = job.find(loop.second);
            if (loop.firstOperator == NONE) {
                fault.tell(NO_OPERATOR, loop.file, loop.firstPlace);
            } else if (loop.secondOperator == NONE) {
                fault.tell(NO_OPERATOR, loop.file, loop.secondPlace);
            } else if (job.operators[loop.firstOperator].kind == KIND_SINK) {
                fault.tell(FROM_SINK, loop.file, loop.firstPlace);
            } else if (job.operators[loop.secondOperator].kind != KIND_UNION) {
                fault.tell(NO_UNION, loop.file, loop.secondPlace);
            }
        }

        private void findOrigins(Job job) {
            for (int k = 0; k < job.operatorCount; k++) {
                Operator operator = job.operators[k];
                origins[k] = 0;
                for (int j = 0; j < operator.inputCount; j++) {
                    origins[k] |= 1L << operator.inputs[j].from;
                }
            }
            for (int through = 0; through < job.operatorCount; through++) {
                for (int k = 0; k < job.operatorCount; k++) {
                    if (comesFrom(k, through)) {
                        origins[k] |= origins[through];
                    }
                }
            }
        }

        private boolean comesFrom(int k, int origin) {
            return (origins[k] >>> origin & 1) != 0;
        }

        private void judgeCycles(Job job) {
            for (int k = 0; k < job.operatorCount && fault.what == 0; k++) {
                if (comesFrom(k, k)) {
                    fault.tell(COMES_TO_ITSELF, job.operators[k].file, job.operators[k].place);
                }
            }
        }

        private void judgeLoopBack(Pair loop) {
            int first = loop.firstOperator;
            int second = loop.secondOperator;
            if (first != second && !comesFrom(first, second)) {
                fault.tell(LOOP_AHEAD, loop.file, loop.firstPlace);
            }
        }

        private void judgeKeys(Job job) {
            for (int at = 0; at < job.operatorCount && fault.what == 0; at++) {
                Operator operator = job.operators[job.layout.order[at]];
                if (operator.wantsKeyedInputs() && job.layout.commonKey(operator) == 0) {
                    fault.tell(NOT_KEYED, operator.file, operator.kindPlace);
                }
            }
        }
    }

    /** The order in which a job's operators stand, and what is reckoned by it. */
    private static final class Layout {
        final int[] order;
        private final int[] position;
        private final int[] level;
        // The name by which an operator's streams are keyed, or 0.
        final long[] keyedBy;
        final Flow[] mainFlow;
        final Flow[] sideFlow;
        private final Flow comes;
        private final int[] readers;
        private final int[] mainReaders;
        private final boolean[] fused;
        private final int[] chain;
        int levels;
        int chains;
        int tasks;
        int channels;

        Layout() {
            order = new int[OPERATORS];
            position = new int[OPERATORS];
            level = new int[OPERATORS];
            keyedBy = new long[OPERATORS];
            mainFlow = new Flow[OPERATORS];
            sideFlow = new Flow[OPERATORS];
            for (int k = 0; k < OPERATORS; k++) {
                mainFlow[k] = new Flow();
                sideFlow[k] = new Flow();
            }
            comes = new Flow();
            readers = new int[OPERATORS];
            mainReaders = new int[OPERATORS];
            fused = new boolean[OPERATORS];
            chain = new int[OPERATORS];
        }

        int laid(int k, int what) {
            switch (what) {
                case 11:
                    return level[k];
                case 12:
                    return position[k];
                case 13:
                    return chain[k];
                case 14:
                    return readers[k];
                default:
                    return fused[k] ? 1 : 0;
            }
        }

        void arrange(Job job) {
            levels = 0;
            for (int k = 0; k < job.operatorCount; k++) {
                position[k] = NONE;
            }
            for (int at = 0; at < job.operatorCount; at++) {
                int k = firstReady(job);
                if (k == NONE) {
                    return;
                }
                order[at] = k;
                position[k] = at;
                level[k] = levelOf(job.operators[k]);
                levels = Math.max(levels, level[k] + 1);
                keyedBy[k] = keyOf(job.operators[k]);
            }
        }

        private int firstReady(Job job) {
            for (int k = 0; k < job.operatorCount; k++) {
                if (position[k] == NONE && inputsStand(job.operators[k])) {
                    return k;
                }
            }
            return NONE;
        }

        private boolean inputsStand(Operator operator) {
            for (int j = 0; j < operator.inputCount; j++) {
                if (position[operator.inputs[j].from] == NONE) {
                    return false;
                }
            }
            return true;
        }

        private int levelOf(Operator operator) {
            int greatest = -1;
            for (int j = 0; j < operator.inputCount; j++) {
                greatest = Math.max(greatest, level[operator.inputs[j].from]);
            }
            return greatest + 1;
        }

        private long keyOf(Operator operator) {
            if (operator.key != 0) {
                return operator.key;
            }
            switch (operator.kind) {
                case KIND_FILTER:
                case KIND_SPAN:
                case KIND_FOLD:
                case KIND_JOIN:
                    return operator.inputCount > 0 ? keyedBy[operator.inputs[0].from] : 0;
                case KIND_UNION:
                    return commonKey(operator);
                default:
                    return 0;
            }
        }

        long commonKey(Operator operator) {
            if (operator.inputCount == 0) {
                return 0;
            }
            long common = keyedBy[operator.inputs[0].from];
            for (int j = 1; j < operator.inputCount; j++) {
                if (keyedBy[operator.inputs[j].from] != common) {
                    return 0;
                }
            }
            return common;
        }

        void reckon(Job job) {
            for (int at = 0; at < job.operatorCount; at++) {
                int k = order[at];
                reckonFlow(job.operators[k], k);
            }
            countReaders(job);
            findChains(job);
            countChannels(job);
        }

        private void reckonFlow(Operator operator, int k) {
            findWhatComes(operator);
            mainFlow[k].become(comes);
            sideFlow[k].become(comes);
            int upper = operator.passLower == 0 ? 1 : operator.passUpper;
            int lower = operator.passLower == 0 ? 1 : operator.passLower;
            mainFlow[k].multiply(upper, lower);
            sideFlow[k].multiply(Math.max(lower - upper, 0), lower);
        }

        private void findWhatComes(Operator operator) {
            if (operator.kind == KIND_SOURCE || operator.inputCount == 0) {
                comes.put(operator.rate == 0 ? 1 : operator.rate, 1);
                return;
            }
            comes.become(flowOf(operator.inputs[0]));
            for (int j = 1; j < operator.inputCount; j++) {
                if (operator.kind == KIND_JOIN) {
                    comes.lessen(flowOf(operator.inputs[j]));
                } else {
                    comes.add(flowOf(operator.inputs[j]));
                }
            }
        }

        private Flow flowOf(Input input) {
            return input.side == NONE ? mainFlow[input.from] : sideFlow[input.from];
        }

        private void countReaders(Job job) {
            for (int k = 0; k < job.operatorCount; k++) {
                readers[k] = 0;
                mainReaders[k] = 0;
            }
            for (int k = 0; k < job.operatorCount; k++) {
                Operator operator = job.operators[k];
                for (int j = 0; j < operator.inputCount; j++) {
                    Input input = operator.inputs[j];
                    readers[input.from]++;
                    mainReaders[input.from] += input.side == NONE ? 1 : 0;
                }
            }
            for (int k = 0; k < job.loopCount; k++) {
                readers[job.loops[k].firstOperator]++;
                mainReaders[job.loops[k].firstOperator]++;
            }
        }

        private void findChains(Job job) {
            chains = 0;
            tasks = 0;
            for (int at = 0; at < job.operatorCount; at++) {
                int k = order[at];
                Operator operator = job.operators[k];
                fused[k] = isFused(job, operator);
                if (fused[k]) {
                    chain[k] = chain[operator.inputs[0].from];
                } else {
                    chain[k] = chains;
                    chains++;
                    tasks += operator.parOrOne();
                }
            }
        }

        private boolean isFused(Job job, Operator operator) {
            boolean mayBe = operator.kind == KIND_MAP || operator.kind == KIND_FILTER
                || operator.kind == KIND_FLAT || operator.kind == KIND_SINK;
            if (!mayBe || operator.key != 0 || operator.inputCount != 1) {
                return false;
            }
            Input input = operator.inputs[0];
            return input.side == NONE && mainReaders[input.from] == 1
                && job.operators[input.from].parOrOne() == operator.parOrOne();
        }

        private void countChannels(Job job) {
            channels = 0;
            for (int k = 0; k < job.operatorCount; k++) {
                for (int j = 0; j < job.operators[k].inputCount && !fused[k]; j++) {
                    channels += channelsBetween(job, job.operators[k].inputs[j].from, k);
                }
            }
            for (int k = 0; k < job.loopCount; k++) {
                channels += channelsBetween(job, job.loops[k].firstOperator, job.loops[k].secondOperator);
            }
        }

        private int channelsBetween(Job job, int from, int to) {
            int fromPar = job.operators[from].parOrOne();
            int toPar = job.operators[to].parOrOne();
            return fromPar == toPar && keyedBy[from] == 0 ? fromPar : fromPar * toPar;
        }
    }

    /** A fraction in lowest terms, or one that is too big to be told. */
    private static final class Flow {
        private static final long MOST = 1000000000L;
        // No two numbers up to the product of two flows take more steps than this.
        private static final int STEPS = 200;
        long upper;
        long lower;
        boolean big;

        Flow() {
            upper = 0;
            lower = 1;
        }

        void become(Flow other) {
            upper = other.upper;
            lower = other.lower;
            big = other.big;
        }

        void put(long newUpper, long newLower) {
            long divisor = commonDivisor(newUpper, newLower);
            if (divisor > 0) {
                upper = newUpper / divisor;
                lower = newLower / divisor;
            }
            big = upper > MOST || lower > MOST;
        }

        void multiply(int byUpper, int byLower) {
            if (!big) {
                put(upper * byUpper, lower * byLower);
            }
        }

        void add(Flow other) {
            if (big || other.big) {
                big = true;
            } else {
                put(upper * other.lower + other.upper * lower, lower * other.lower);
            }
        }

        void lessen(Flow other) {
            if (big || other.big) {
                big = true;
            } else if (other.upper * lower < upper * other.lower) {
                become(other);
            }
        }

        private static long commonDivisor(long one, long two) {
            long greater = one;
            long rest = two;
            for (int i = 0; i < STEPS && rest != 0; i++) {
                long next = greater % rest;
                greater = rest;
                rest = next;
            }
            return greater;
        }
    }
}
