import java.util.ArrayList;
import java.util.HashMap;
import java.util.List;
import java.util.Map;
import java.util.Random;
import java.util.TreeMap;

/** All promises, on texts made at random (the same ones in each run), against the second reading in Model. */
public final class ModelTest {
    private static final int ROUNDS = 6000;
    private static final Map<Integer, Integer> MET = new TreeMap<>();

    private final Random random;
    private final Desk desk = new Desk();
    private final Model model = new Model();
    private final Model.Text[] jobs = new Model.Text[2];
    private final List<String> numbers = new ArrayList<>();
    private final TextMaker maker;

    private ModelTest(int seed) {
        random = new Random(seed);
        maker = new TextMaker(random);
    }

    public static void main(String[] args) {
        int rounds = args.length > 0 ? Integer.parseInt(args[0]) : ROUNDS;
        int first = args.length > 1 ? Integer.parseInt(args[1]) : 1;
        for (int seed = first; seed < first + rounds && Desk.wrongAnswers() < 20; seed++) {
            int before = Desk.wrongAnswers();
            new ModelTest(seed).run();
            if (Desk.wrongAnswers() > before) {
                System.out.println("that was seed " + seed);
            }
        }
        System.out.println("answers of read: " + MET);
        for (int fault : new int[] {1, 2, 3, 4, 6, 7, 8, 9, 10, 12, 13, 14, 15}) {
            if (rounds >= ROUNDS) {
                Desk.due("texts were made with fault " + fault, MET.containsKey(-10 - fault) ? 1 : 0, 1);
            }
        }
        Desk.end();
    }

    private void run() {
        for (int step = 0; step < 8; step++) {
            String[] texts = maker.files();
            for (int k = 0; k < 6; k++) {
                if (!texts[k].equals(model.files[k])) {
                    model.files[k] = texts[k];
                    desk.putFile(k, texts[k]);
                }
            }
            int job = random.nextInt(2);
            readBoth(job, 0);
            if (random.nextInt(3) == 0) {
                readBoth(1 - job, random.nextInt(6));
            }
            checkJobs();
        }
    }

    private void readBoth(int job, int file) {
        int got = desk.x.read(job, file);
        MET.merge(Math.min(got, 1), 1, Integer::sum);
        String call = "read of " + String.join("\n----\n", model.files);
        try {
            Model.Text text = model.read(file);
            List<String> fresh = new ArrayList<>(text.ops.keySet());
            fresh.removeAll(numbers);
            boolean full = numbers.size() + fresh.size() > 200;
            Desk.due(call, got, full ? JobText.FULL : text.ops.size());
            desk.dueFault(call, 0, JobText.NONE, JobText.NONE, 0);
            if (!full) {
                numbers.addAll(fresh);
                jobs[job] = text;
            }
        } catch (Model.Stop stop) {
            Desk.due(call, got, -10 - stop.what);
            desk.dueFault(call, stop.what, stop.file, stop.place, stop.expected);
        }
    }

    private void checkJobs() {
        for (int job = 0; job < 2; job++) {
            if (jobs[job] == null) {
                Desk.due("count of no job", desk.x.count(job, 0), JobText.STATE);
            } else {
                checkJob(job);
            }
        }
        if (jobs[0] != null && jobs[1] != null) {
            Desk.due("differences", desk.differences(), Model.differences(jobs[0], jobs[1]));
        }
        Desk.due("numbers()", desk.x.numbers(), numbers.size());
        for (int n = 0; n < numbers.size(); n++) {
            int number = n;
            Desk.due("numbered", Desk.text(i -> desk.x.numbered(number, i)), numbers.get(n));
        }
    }

    private void checkJob(int job) {
        Model.Text text = jobs[job];
        int[] counts = {text.ops.size(), text.sets.size(), text.loops.size(), text.commentCount, text.chains, text.tasks,
            text.channels, text.levels};
        for (int what = 0; what < counts.length; what++) {
            Desk.due("count " + what, desk.x.count(job, what), counts[what]);
        }
        Desk.due("printed", desk.printed(job), Model.printed(text));
        List<Model.Op> ops = text.list();
        for (int k = 0; k < ops.size(); k++) {
            checkOperator(job, k, ops.get(k), new ArrayList<>(text.ops.keySet()));
        }
        List<Model.Line> sets = new ArrayList<>(text.sets.values());
        for (int k = 0; k < sets.size(); k++) {
            checkSet(job, k, sets.get(k));
        }
        for (int k = 0; k < text.loops.size(); k++) {
            Desk.due("loop", desk.x.loop(job, k, 0), new ArrayList<>(text.ops.keySet()).indexOf(text.loops.get(k).first));
            Desk.due("loop", desk.x.loop(job, k, 1), new ArrayList<>(text.ops.keySet()).indexOf(text.loops.get(k).second));
        }
    }

    private void checkOperator(int job, int k, Model.Op op, List<String> names) {
        Map<String, String> told = new HashMap<>();
        op.told.forEach((property, words) -> told.put(property, words.get(0)));
        String pass = op.told.containsKey("pass") ? told.get("pass") + " " + op.told.get("pass").get(2) : "0 0";
        String want = op.kind + " " + told.getOrDefault("par", "0") + " " + told.getOrDefault("rate", "0") + " " + pass + " "
            + told.getOrDefault("keep", "0") + " " + op.inputs.size() + " " + op.sides().size() + " " + numbers.indexOf(op.name)
            + " " + op.file + " " + op.place + " " + op.level + " " + op.position + " " + op.chain + " " + op.readers + " "
            + (op.fused ? 1 : 0);
        Desk.due("operator " + op.name, desk.operator(job, k), want);
        Desk.due("name", desk.name(job, k, 0), op.name);
        Desk.due("key of " + op.name, desk.name(job, k, 1), op.keyed == null ? "" : op.keyed);
        for (int i = 0; i < 3; i++) {
            Desk.due("side", desk.name(job, k, 2 + i), i < op.sides().size() ? op.sides().get(i) : "");
        }
        for (int j = 0; j < op.inputs.size(); j++) {
            Model.Source input = op.inputs.get(j);
            int side = input.second == null ? JobText.NONE : jobs[job].ops.get(input.first).sides().indexOf(input.second);
            Desk.due("input", desk.x.input(job, k, j, 0), names.indexOf(input.first));
            Desk.due("input's side", desk.x.input(job, k, j, 1), side);
        }
        String main = op.main == null ? "-5/-5" : op.main[0] + "/" + op.main[1];
        String side = op.side == null ? "-5/-5" : op.side[0] + "/" + op.side[1];
        Desk.due("flow of " + op.name, desk.flow(job, k), main + " " + side);
    }

    private void checkSet(int job, int k, Model.Line set) {
        boolean number = set.second.matches("[0-9]+");
        Desk.due("set", desk.x.set(job, k, 0), number ? Integer.parseInt(set.second) : JobText.NONE);
        Desk.due("set's file", desk.x.set(job, k, 1), set.file);
        Desk.due("set's place", desk.x.set(job, k, 2), set.firstPlace);
        Desk.due("set's name", Desk.text(i -> desk.x.setLetter(job, k, false, i)), set.first);
        Desk.due("set's value", Desk.text(i -> desk.x.setLetter(job, k, true, i)), number ? "" : set.second);
    }

    /** Makes files that are mostly right, some with a word or a byte changed. */
    private static final class TextMaker {
        private final Random random;
        private int fresh;

        TextMaker(Random random) {
            this.random = random;
        }

        private String pick(String words) {
            String[] all = words.split(" ");
            return all[random.nextInt(all.length)];
        }

        private boolean chance(int ofHundred) {
            return random.nextInt(100) < ofHundred;
        }

        String[] files() {
            fresh = chance(80) ? 0 : random.nextInt(1000);
            List<StringBuilder> files = new ArrayList<>();
            for (int k = 0; k < 6; k++) {
                files.add(new StringBuilder());
            }
            List<String> names = new ArrayList<>();
            List<String> statements = statements(names);
            int current = 0;
            for (String statement : statements) {
                if (current < 5 && chance(6)) {
                    files.get(current).append(" use ").append(current + 1).append("; ");
                    current++;
                } else if (current > 0 && chance(10)) {
                    current--;
                }
                files.get(current).append(spaced(statement));
            }
            String[] texts = new String[6];
            boolean change = chance(50);
            for (int k = 0; k < 6; k++) {
                String text = files.get(k).toString();
                if (change && k <= 1 && chance(70)) {
                    text = changed(text);
                }
                texts[k] = text.length() > 1200 ? text.substring(0, 1200) : text;
            }
            return texts;
        }

        private List<String> statements(List<String> names) {
            List<String> statements = new ArrayList<>();
            // Names with their kinds and sides, so that most inputs name something.
            List<String> streams = new ArrayList<>();
            List<String> unions = new ArrayList<>();
            int many = chance(10) ? 30 + random.nextInt(14) : random.nextInt(9);
            boolean plain = many > 30 || chance(20);
            for (int i = 0; i < many; i++) {
                String name = chance(98) || names.isEmpty() ? "n" + fresh++ : names.get(random.nextInt(names.size()));
                names.add(name);
                boolean source = streams.isEmpty() || chance(plain ? 60 : 20);
                statements.add(source ? source(name, streams) : operator(name, streams, unions));
            }
            int loops = unions.isEmpty() ? random.nextInt(50) / 49 : random.nextInt(4);
            loops = chance(1) ? 9 : loops;
            for (int i = 0; i < loops; i++) {
                String to = unions.isEmpty() || chance(10) ? anyName(names) : unions.get(random.nextInt(unions.size()));
                statements.add("loop " + (chance(30) ? to : anyName(names)) + " to " + to + " ;");
            }
            int sets = chance(3) ? 14 + random.nextInt(4) : random.nextInt(3);
            for (int i = 0; i < sets; i++) {
                statements.add(random.nextInt(statements.size() + 1), "set " + (chance(97) ? "v" + i : "v0") + " = "
                    + pick("0 1 7 99999 abc v0 n1") + " ;");
            }
            int uses = chance(2) ? 28 + random.nextInt(5) : random.nextInt(12) / 10;
            for (int i = 0; i < uses; i++) {
                statements.add(random.nextInt(statements.size() + 1), "use " + (chance(95) ? "5" : pick("0 1 2 3 4 5 6")) + " ;");
            }
            if (chance(15)) {
                java.util.Collections.shuffle(statements, random);
            }
            return statements;
        }

        private String anyName(List<String> names) {
            return names.isEmpty() || chance(3) ? "none" : names.get(random.nextInt(names.size()));
        }

        private String source(String name, List<String> streams) {
            return "source " + name + properties(name, "par rate key side", streams) + " ;";
        }

        private String operator(String name, List<String> streams, List<String> unions) {
            String kind = pick("map map filter filter flat span join union union fold sink");
            int inputs = switch (kind) {
                case "join" -> 2;
                case "union" -> 2 + random.nextInt(3);
                case "sink" -> 1 + random.nextInt(4);
                default -> 1;
            };
            inputs = chance(2) ? 1 + random.nextInt(5) : inputs;
            StringBuilder text = new StringBuilder("op " + name + " : " + kind + " from");
            for (int j = 0; j < inputs; j++) {
                String stream = streams.get(chance(60) ? streams.size() - 1 : random.nextInt(streams.size()));
                stream = chance(1) ? pick("none n0 n1 n2 n3 n4") : stream;
                stream = chance(1) ? name : stream;
                text.append(j == 0 ? " " : " , ").append(stream);
            }
            String may = switch (kind) {
                case "map", "filter", "flat" -> "par pass key side";
                case "union" -> "par key";
                case "sink" -> "par";
                default -> "par pass keep side";
            };
            if (kind.equals("union")) {
                unions.add(name);
            }
            text.append(properties(name, may, kind.equals("sink") && chance(90) ? new ArrayList<>() : streams));
            return text.append(" ;").toString();
        }

        private String properties(String name, String may, List<String> streams) {
            List<String> told = new ArrayList<>();
            List<String> sides = new ArrayList<>();
            for (String property : may.split(" ")) {
                if (chance(property.equals("key") ? 60 : 35)) {
                    told.add(switch (property) {
                        case "par" -> " par " + pick(chance(97) ? "1 1 2 2 3 64" : "0 65");
                        case "rate" -> " rate " + pick(chance(97) ? "1 10 30 99999 50000 12345" : "0");
                        case "pass" -> " pass " + pick(chance(97) ? "0 1 2 3 500 998 999" : "1000") + " / "
                            + pick(chance(97) ? "1 2 3 4 997 991 983 999" : "0 1000");
                        case "key" -> " key " + pick("k k k k k l");
                        case "keep" -> " keep " + pick(chance(97) ? "1 100 9999" : "0 10000");
                        default -> sides(sides);
                    });
                }
            }
            java.util.Collections.shuffle(told, random);
            for (String side : sides) {
                streams.add(name + " . " + side);
            }
            streams.add(name);
            return String.join("", told);
        }

        private String sides(List<String> sides) {
            int many = chance(98) ? 1 + random.nextInt(3) : 4;
            for (int i = 0; i < many; i++) {
                sides.add(chance(98) ? "abcd".substring(i, i + 1) : "a");
            }
            return " side " + String.join(" , ", sides);
        }

        private String spaced(String statement) {
            StringBuilder text = new StringBuilder();
            boolean wide = chance(20);
            boolean told = chance(10);
            for (String word : statement.split(" ")) {
                boolean mark = word.matches("[;,:.=/]");
                boolean markAhead = text.length() > 0 && text.substring(text.length() - 1).matches("[;,:.=/ \n]");
                if (text.length() > 0 && (wide || !mark && !markAhead)) {
                    text.append(pick("1 2 3").equals("1") ? "\n" : " ");
                }
                if (told && chance(20) || chance(1)) {
                    text.append(comment());
                }
                text.append(word);
            }
            return text.append(chance(30) ? "\n" : "").append(chance(8) ? comment() : "").toString();
        }

        private String comment() {
            if (chance(1)) {
                return "#\n".repeat(random.nextInt(45));
            }
            String inner = chance(1) ? "x".repeat(58 + random.nextInt(5)) : pick("a b # ; op ~") + " " + pick("x y z");
            return "#" + pick("1 2 3").replace("1", " ").replace("2", "").replace("3", "  ") + (chance(20) ? "" : inner)
                + pick("1 2").replace("1", " ").replace("2", "") + "\n";
        }

        private String changed(String text) {
            int at = random.nextInt(text.length() + 1);
            int behind = Math.min(text.length(), at + random.nextInt(4));
            String word = chance(50) ? "" : " " + pick("use set source op loop from to par rate pass key keep side map filter flat "
                + "span join union fold sink a 1 0 00 100000 5a abcdefghijklm abcdefghijkl ; , : . = / # ! A _ n0 n1 65") + " ";
            return text.substring(0, at) + word + text.substring(chance(50) ? at : behind);
        }
    }
}
