import java.math.BigInteger;
import java.util.ArrayList;
import java.util.Arrays;
import java.util.HashMap;
import java.util.HashSet;
import java.util.LinkedHashMap;
import java.util.List;
import java.util.Map;
import java.util.Set;

/** A second reading of the document, by recursive descent and with the Java library: what JobText is held against. */
final class Model {
    static final List<String> THINGS = Arrays.asList(Desk.THINGS);
    static final List<String> KINDS = List.of("source", "map", "filter", "flat", "span", "join", "union", "fold", "sink");
    static final List<String> PROPERTY_ORDER = List.of("par", "rate", "pass", "key", "keep", "side");

    /** A fault that ends a read. */
    static final class Stop extends RuntimeException {
        final int what;
        final int file;
        final int place;
        final int expected;

        Stop(int what, int file, int place, int expected) {
            this.what = what;
            this.file = file;
            this.place = place;
            this.expected = expected;
        }
    }

    /** A word of a file; its thing is null if it is wrong. */
    static final class Token {
        String thing;
        String text;
        int place;
    }

    static final class Source {
        String first;
        String second;
        int firstPlace;
        int secondPlace;
    }

    static final class Op {
        String name;
        int kind;
        int file;
        int place;
        int kindPlace;
        final List<Source> inputs = new ArrayList<>();
        // Each property with its words: numbers and names as they were told.
        final Map<String, List<String>> told = new HashMap<>();
        int level;
        int position;
        int chain;
        int readers;
        boolean fused;
        String keyed;
        BigInteger[] main;
        BigInteger[] side;

        int par() {
            return told.containsKey("par") ? Integer.parseInt(told.get("par").get(0)) : 1;
        }

        List<String> sides() {
            return told.getOrDefault("side", List.of());
        }
    }

    static final class Line {
        String first;
        String second;
        int file;
        int firstPlace;
        int secondPlace;
    }

    static final class Text {
        final Map<String, Op> ops = new LinkedHashMap<>();
        final Map<String, Line> sets = new LinkedHashMap<>();
        final List<Line> loops = new ArrayList<>();
        final List<List<String>> statements = new ArrayList<>();
        final List<List<String>> comments = new ArrayList<>();
        int commentCount;
        int chains;
        int tasks;
        int channels;
        int levels;

        List<Op> list() {
            return new ArrayList<>(ops.values());
        }
    }

    final String[] files = {"", "", "", "", "", ""};
    private Text text;
    private final List<Integer> open = new ArrayList<>();
    private int uses;
    private List<String> pending;

    Text read(int file) {
        text = new Text();
        open.clear();
        uses = 0;
        pending = new ArrayList<>();
        new Cursor(file).readFile();
        text.comments.add(pending);
        judge();
        reckon();
        return text;
    }

    private final class Cursor {
        final int file;
        final String bytes;
        int at;

        Cursor(int file) {
            this.file = file;
            this.bytes = files[file];
        }

        Stop stop(int what, Token token) {
            return new Stop(what, file, token.place, 0);
        }

        Token next(String expected) {
            while (at < bytes.length() && " \n#".indexOf(bytes.charAt(at)) >= 0) {
                if (bytes.charAt(at) == '#') {
                    int end = bytes.indexOf('\n', at);
                    String comment = bytes.substring(at + 1, end < 0 ? bytes.length() : end).strip();
                    text.commentCount++;
                    if (text.commentCount > 40 || comment.length() > 60) {
                        throw new Stop(3, file, at, 0);
                    }
                    pending.add(comment);
                    at = end < 0 ? bytes.length() : end;
                } else {
                    at++;
                }
            }
            Token token = new Token();
            token.place = at;
            if (at == bytes.length()) {
                token.thing = "END";
            } else {
                int end = at + 1;
                if (String.valueOf(bytes.charAt(at)).matches("[a-z0-9]")) {
                    while (end < bytes.length() && bytes.substring(end, end + 1).matches("[a-z0-9]")) {
                        end++;
                    }
                }
                token.text = bytes.substring(at, end);
                token.thing = thing(token.text);
                at = end;
            }
            int bits = Desk.bits(expected);
            if (token.thing == null || (Desk.bits(token.thing) & bits) == 0) {
                throw new Stop(1, file, token.place, bits);
            }
            return token;
        }

        String thing(String word) {
            if (word.matches("[a-z][a-z0-9]{0,11}")) {
                return THINGS.indexOf(word) >= 9 ? word : "N";
            }
            if (word.matches("0|[1-9][0-9]{0,4}")) {
                return "M";
            }
            return word.matches("[;,:.=/]") ? word : null;
        }

        Token number(int least, int most) {
            Token token = next("M");
            int value = Integer.parseInt(token.text);
            if (value < least || value > most) {
                throw stop(2, token);
            }
            return token;
        }

        void readFile() {
            open.add(file);
            for (Token token = next("END use set source op loop"); !token.thing.equals("END");
                token = next("END use set source op loop")) {
                if (token.thing.equals("use")) {
                    readUse();
                } else {
                    text.comments.add(pending);
                    pending = new ArrayList<>();
                    switch (token.thing) {
                        case "set" -> readSet();
                        case "loop" -> readLoop();
                        case "source" -> readSource();
                        default -> readOp();
                    }
                }
            }
            open.remove(open.size() - 1);
        }

        void readUse() {
            Token token = number(0, 5);
            uses++;
            if (uses > 30) {
                throw stop(3, token);
            }
            next(";");
            int inner = Integer.parseInt(token.text);
            if (open.contains(inner)) {
                throw stop(4, token);
            }
            new Cursor(inner).readFile();
        }

        void readSet() {
            Token name = next("N");
            if (text.sets.size() == 16) {
                throw stop(3, name);
            }
            if (text.sets.containsKey(name.text)) {
                throw stop(6, name);
            }
            Line line = new Line();
            line.first = name.text;
            line.file = file;
            line.firstPlace = name.place;
            text.sets.put(name.text, line);
            next("=");
            line.second = next("N M").text;
            next(";");
            text.statements.add(List.of("set", line.first, "=", line.second, ";"));
        }

        void readLoop() {
            Token name = next("N");
            if (text.loops.size() == 8) {
                throw stop(3, name);
            }
            Line line = new Line();
            line.first = name.text;
            line.file = file;
            line.firstPlace = name.place;
            next("to");
            Token to = next("N");
            line.second = to.text;
            line.secondPlace = to.place;
            next(";");
            text.loops.add(line);
            text.statements.add(List.of("loop", line.first, "to", line.second, ";"));
        }

        Op readName() {
            Token name = next("N");
            if (text.ops.size() == 40) {
                throw stop(3, name);
            }
            if (text.ops.containsKey(name.text)) {
                throw stop(6, name);
            }
            Op op = new Op();
            op.name = name.text;
            op.file = file;
            op.place = name.place;
            text.ops.put(op.name, op);
            return op;
        }

        void readSource() {
            Op op = readName();
            readProperties(op, "", new ArrayList<>(List.of("source", op.name)));
        }

        void readOp() {
            Op op = readName();
            next(":");
            Token kind = next("map filter flat span join union fold sink");
            op.kind = KINDS.indexOf(kind.text);
            op.kindPlace = kind.place;
            next("from");
            List<String> words = new ArrayList<>(List.of("op", op.name, ":", kind.text, "from"));
            readInput(op, words);
        }

        void readInput(Op op, List<String> words) {
            Token name = next("N");
            if (op.inputs.size() == 4) {
                throw stop(3, name);
            }
            Source input = new Source();
            input.first = name.text;
            input.firstPlace = name.place;
            op.inputs.add(input);
            words.add(name.text);
            readProperties(op, " , .", words);
        }

        String left(Op op) {
            String[] may = {"par rate key side", "par pass key side", "par pass key side", "par pass key side",
                "par pass keep side", "par pass keep side", "par key", "par pass keep side", "par"};
            StringBuilder left = new StringBuilder();
            for (String property : may[op.kind].split(" ")) {
                left.append(op.told.containsKey(property) ? "" : " " + property);
            }
            return left.toString();
        }

        void readProperties(Op op, String marks, List<String> words) {
            Token token = next(";" + marks + left(op));
            switch (token.thing) {
                case ";" -> {
                    text.statements.add(inOrder(op, words));
                    return;
                }
                case "," -> {
                    if (!op.told.containsKey("side")) {
                        words.add(",");
                        readInput(op, words);
                    } else {
                        readSide(op);
                        readProperties(op, " ,", words);
                    }
                    return;
                }
                case "." -> {
                    Token side = next("N");
                    Source input = op.inputs.get(op.inputs.size() - 1);
                    input.second = side.text;
                    input.secondPlace = side.place;
                    words.addAll(List.of(".", side.text));
                    readProperties(op, " ,", words);
                    return;
                }
                case "side" -> {
                    op.told.put("side", new ArrayList<>());
                    readSide(op);
                    readProperties(op, " ,", words);
                    return;
                }
                case "par" -> op.told.put("par", List.of(number(1, 64).text));
                case "rate" -> op.told.put("rate", List.of(number(1, 99999).text));
                case "keep" -> op.told.put("keep", List.of(number(1, 9999).text));
                case "key" -> op.told.put("key", List.of(next("N").text));
                default -> {
                    String upper = number(0, 999).text;
                    next("/");
                    op.told.put("pass", List.of(upper, "/", number(1, 999).text));
                }
            }
            readProperties(op, "", words);
        }

        void readSide(Op op) {
            Token side = next("N");
            if (op.sides().size() == 3) {
                throw stop(3, side);
            }
            if (op.sides().contains(side.text)) {
                throw stop(6, side);
            }
            op.sides().add(side.text);
        }

        List<String> inOrder(Op op, List<String> words) {
            for (String property : PROPERTY_ORDER) {
                if (op.told.containsKey(property)) {
                    words.add(property);
                    List<String> its = op.told.get(property);
                    for (int i = 0; i < its.size(); i++) {
                        if (i > 0 && property.equals("side")) {
                            words.add(",");
                        }
                        words.add(its.get(i));
                    }
                }
            }
            words.add(";");
            return words;
        }
    }

    // ---- judged

    private void judge() {
        for (Op op : text.ops.values()) {
            for (Source input : op.inputs) {
                Op from = text.ops.get(input.first);
                if (from == null) {
                    throw new Stop(7, op.file, input.firstPlace, 0);
                }
                if (input.second != null && !from.sides().contains(input.second)) {
                    throw new Stop(8, op.file, input.secondPlace, 0);
                }
                if (from.kind == 8) {
                    throw new Stop(9, op.file, input.firstPlace, 0);
                }
            }
            int many = op.inputs.size();
            boolean fine = op.kind == 0 || op.kind == 8 || (op.kind == 5 ? many == 2 : op.kind == 6 ? many > 1 : many == 1);
            if (!fine) {
                throw new Stop(10, op.file, op.kindPlace, 0);
            }
        }
        for (Line loop : text.loops) {
            if (!text.ops.containsKey(loop.first)) {
                throw new Stop(7, loop.file, loop.firstPlace, 0);
            }
            if (!text.ops.containsKey(loop.second)) {
                throw new Stop(7, loop.file, loop.secondPlace, 0);
            }
            if (text.ops.get(loop.first).kind == 8) {
                throw new Stop(9, loop.file, loop.firstPlace, 0);
            }
            if (text.ops.get(loop.second).kind != 6) {
                throw new Stop(12, loop.file, loop.secondPlace, 0);
            }
        }
        for (Op op : text.ops.values()) {
            if (ahead(op.name, new HashSet<>()).contains(op.name)) {
                throw new Stop(13, op.file, op.place, 0);
            }
        }
        for (Line loop : text.loops) {
            if (!loop.first.equals(loop.second) && !ahead(loop.first, new HashSet<>()).contains(loop.second)) {
                throw new Stop(14, loop.file, loop.firstPlace, 0);
            }
        }
        for (Op op : layout()) {
            op.keyed = keyed(op);
            boolean all = true;
            Set<String> names = new HashSet<>();
            for (Source input : op.inputs) {
                all &= text.ops.get(input.first).keyed != null;
                names.add(text.ops.get(input.first).keyed);
            }
            boolean asks = op.kind == 4 || op.kind == 5 || op.kind == 7;
            if (asks && (!all || op.kind == 5 && names.size() > 1)) {
                throw new Stop(15, op.file, op.kindPlace, 0);
            }
        }
    }

    private Set<String> ahead(String name, Set<String> found) {
        for (Source input : text.ops.get(name).inputs) {
            if (found.add(input.first)) {
                ahead(input.first, found);
            }
        }
        return found;
    }

    private List<Op> layout() {
        List<Op> laid = new ArrayList<>();
        Set<String> names = new HashSet<>();
        while (laid.size() < text.ops.size()) {
            for (Op op : text.ops.values()) {
                boolean ready = !names.contains(op.name);
                for (Source input : op.inputs) {
                    ready &= names.contains(input.first);
                }
                if (ready) {
                    op.position = laid.size();
                    laid.add(op);
                    names.add(op.name);
                    break;
                }
            }
        }
        return laid;
    }

    private String keyed(Op op) {
        if (op.told.containsKey("key")) {
            return op.told.get("key").get(0);
        }
        if (op.kind == 2 || op.kind == 4 || op.kind == 5 || op.kind == 7) {
            return text.ops.get(op.inputs.get(0).first).keyed;
        }
        if (op.kind == 6) {
            Set<String> names = new HashSet<>();
            for (Source input : op.inputs) {
                names.add(text.ops.get(input.first).keyed);
            }
            return names.size() == 1 ? names.iterator().next() : null;
        }
        return null;
    }

    // ---- flows and chains; a flow that is big is null

    private static BigInteger[] fraction(BigInteger upper, BigInteger lower) {
        BigInteger most = BigInteger.valueOf(1000000000);
        BigInteger divisor = upper.gcd(lower);
        BigInteger[] lowest = {upper.divide(divisor), lower.divide(divisor)};
        return lowest[0].max(lowest[1]).compareTo(most) > 0 ? null : lowest;
    }

    private static BigInteger[] times(BigInteger[] flow, int upper, int lower) {
        return flow == null ? null
            : fraction(flow[0].multiply(BigInteger.valueOf(upper)), flow[1].multiply(BigInteger.valueOf(lower)));
    }

    private BigInteger[] comes(Op op) {
        if (op.kind == 0) {
            return new BigInteger[] {new BigInteger(op.told.getOrDefault("rate", List.of("1")).get(0)), BigInteger.ONE};
        }
        BigInteger[] sum = null;
        for (int j = 0; j < op.inputs.size(); j++) {
            Source input = op.inputs.get(j);
            Op from = text.ops.get(input.first);
            BigInteger[] flow = input.second == null ? from.main : from.side;
            if (flow == null) {
                return null;
            }
            if (j == 0) {
                sum = flow;
            } else if (op.kind == 5) {
                sum = sum[0].multiply(flow[1]).compareTo(flow[0].multiply(sum[1])) <= 0 ? sum : flow;
            } else {
                sum = fraction(sum[0].multiply(flow[1]).add(flow[0].multiply(sum[1])), sum[1].multiply(flow[1]));
                if (sum == null) {
                    return null;
                }
            }
        }
        return sum;
    }

    private int channels(Op from, Op to) {
        return from.par() == to.par() && from.keyed == null ? from.par() : from.par() * to.par();
    }

    private void reckon() {
        for (Op op : layout()) {
            BigInteger[] comes = comes(op);
            List<String> pass = op.told.getOrDefault("pass", List.of("1", "/", "1"));
            int upper = Integer.parseInt(pass.get(0));
            int lower = Integer.parseInt(pass.get(2));
            op.main = times(comes, upper, lower);
            op.side = times(comes, upper < lower ? lower - upper : 0, lower);
            for (Source input : op.inputs) {
                op.level = Math.max(op.level, text.ops.get(input.first).level + 1);
                text.ops.get(input.first).readers++;
            }
            text.levels = Math.max(text.levels, op.level + 1);
        }
        for (Line loop : text.loops) {
            text.ops.get(loop.first).readers++;
            text.channels += channels(text.ops.get(loop.first), text.ops.get(loop.second));
        }
        for (Op op : layout()) {
            op.fused = fused(op);
            if (op.fused) {
                op.chain = text.ops.get(op.inputs.get(0).first).chain;
            } else {
                op.chain = text.chains++;
                text.tasks += op.par();
                for (Source input : op.inputs) {
                    text.channels += channels(text.ops.get(input.first), op);
                }
            }
        }
    }

    private boolean fused(Op op) {
        if (!List.of(1, 2, 3, 8).contains(op.kind) || op.told.containsKey("key") || op.inputs.size() != 1
            || op.inputs.get(0).second != null) {
            return false;
        }
        String from = op.inputs.get(0).first;
        for (Op other : text.ops.values()) {
            for (Source input : other.inputs) {
                if (other != op && input.first.equals(from) && input.second == null) {
                    return false;
                }
            }
        }
        for (Line loop : text.loops) {
            if (loop.first.equals(from)) {
                return false;
            }
        }
        return text.ops.get(from).par() == op.par();
    }

    // ---- printed, differences

    static String printed(Text text) {
        StringBuilder page = new StringBuilder();
        for (int i = 0; i < text.comments.size(); i++) {
            for (String comment : text.comments.get(i)) {
                page.append(("# " + comment).strip()).append('\n');
            }
            if (i < text.statements.size()) {
                page.append(joined(text.statements.get(i))).append('\n');
            }
        }
        return page.toString();
    }

    private static String joined(List<String> words) {
        return String.join(" ", words).replaceAll(" ([;,:])", "$1").replaceAll(" ([./]) ", "$1");
    }

    static String differences(Text first, Text second) {
        List<String> rows = new ArrayList<>();
        List<Op> ops = first.list();
        for (int k = 0; k < ops.size(); k++) {
            Op other = second.ops.get(ops.get(k).name);
            if (other == null) {
                rows.add("1 " + k + " 0");
            } else if (bits(ops.get(k), other) != 0) {
                rows.add("2 " + k + " " + bits(ops.get(k), other));
            }
        }
        ops = second.list();
        for (int k = 0; k < ops.size(); k++) {
            if (!first.ops.containsKey(ops.get(k).name)) {
                rows.add("3 " + k + " 0");
            }
        }
        return String.join(", ", rows);
    }

    private static int bits(Op one, Op two) {
        int bits = one.kind == two.kind ? 0 : 1;
        List<String> ones = new ArrayList<>();
        List<String> twos = new ArrayList<>();
        one.inputs.forEach(input -> ones.add(input.first + "." + input.second));
        two.inputs.forEach(input -> twos.add(input.first + "." + input.second));
        bits += ones.equals(twos) ? 0 : 2;
        for (int i = 0; i < PROPERTY_ORDER.size(); i++) {
            String property = PROPERTY_ORDER.get(i);
            List<String> its = one.told.get(property);
            boolean like = its == null ? !two.told.containsKey(property) : its.equals(two.told.get(property));
            bits += like ? 0 : 4 << i;
        }
        return bits;
    }
}
