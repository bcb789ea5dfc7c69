import java.util.ArrayList;
import java.util.Collections;
import java.util.List;

/** The boundaries that terms 1 and 2 name: bytes, tokens, what may stand, the faults met on the way. */
public final class TermsTest {
    private static final String STATEMENT = "END use set source op loop";
    private static final String KINDS = "map filter flat span join union fold sink";
    private static final String[] WRONG_TOKENS = {"A", "!", "_", "1a", "00", "100000", "abcdefghijklm"};

    public static void main(String[] args) {
        namesByLength();
        keysAreNoOwnNames();
        longNamesDoNotWrap();
        numbersByLength();
        numbersDoNotWrap();
        zerosAhead();
        lettersBehindNumbers();
        otherBytes();
        partedTokens();
        fullFiles();
        commentEnds();
        whatMayStand();
        whatMayStandBehindProperties();
        bounds();
        tooManyInputsAndSides();
        tooManyInAllFiles();
        tooManyUses();
        tooManyComments();
        longComments();
        filesBeingRead();
        toldTwice();
        whoseComment();
        mostTokens();
        Desk.end();
    }

    private static String rising(String before, int from, int to, String behind) {
        StringBuilder text = new StringBuilder();
        for (int i = from; i <= to; i++) {
            text.append(before).append(i).append(behind);
        }
        return text.toString();
    }

    /** The text of file 0, read into job 0, has a fault in another file. */
    private static void mustFailIn(Desk desk, String text, int fault, int file, int place) {
        Desk.due("read of " + text, desk.readText(0, text), -10 - fault);
        Desk.due("fault(0) of " + text, desk.x.fault(0), fault);
        Desk.due("fault(1) of " + text, desk.x.fault(1), file);
        Desk.due("fault(2) of " + text, desk.x.fault(2), place);
    }

    // "a NAME of more than 12 bytes"
    private static void namesByLength() {
        Desk desk = new Desk();
        for (int length = 1; length <= 12; length++) {
            String name = "z9a8b7c6d5e4".substring(0, length);
            desk.mustRead(0, "source " + name + ";", 1);
            Desk.due("the name", desk.name(0, 0, 0), name);
        }
        for (int length = 13; length <= 16; length++) {
            desk.mustExpect("source ^" + "z9a8b7c6d5e4f3g2".substring(0, length) + ";", "N");
        }
        Desk more = new Desk();
        more.mustExpect("source ^" + "a".repeat(1193), "N");
        more = new Desk();
        more.mustExpect("^" + "a".repeat(1200), STATEMENT);
        more.mustExpect("^sourcesource1 a;", STATEMENT);
    }

    // "KEYS are these NAMES; OWN NAMES all others"
    private static void keysAreNoOwnNames() {
        for (int bit = 9; bit < Desk.THINGS.length; bit++) {
            Desk desk = new Desk();
            String key = Desk.THINGS[bit];
            desk.mustExpect("source ^" + key + ";", "N");
            desk.mustExpect("set a = ^" + key + ";", "N M");
            desk.mustRead(0, "source " + key + "1; source x" + key + "; source " + key.substring(1) + "0;", 3);
        }
        Desk desk = new Desk();
        desk.mustRead(0, "source s; source uses; source us; source o; source pas; source sid; source sin;", 7);
    }

    // These are "a", "abc" and "source", if no more than 64 bits are kept of a number to the base 37.
    private static void longNamesDoNotWrap() {
        Desk desk = new Desk();
        desk.mustExpect("source a; source ^b2yg2214il10m;", "N");
        desk.mustExpect("source abc; op m: map from ^b2yg2214il22o;", "N");
        desk.mustExpect("^b2yg222mx7i3q a;", STATEMENT);
        desk.mustRead(0, "source zzzzzzzzzzzz; source z99999999999; source azzzzzzzzzzz; source a;", 4);
    }

    // "a NUMBER of more than 5 digits"
    private static void numbersByLength() {
        Desk desk = new Desk();
        String[] fine = {"0", "9", "10", "99", "100", "999", "1000", "9999", "10000", "99999", "90909"};
        for (String number : fine) {
            desk.mustRead(0, "set a = " + number + ";", 0);
            Desk.due("the number", desk.x.set(0, 0, 0), Integer.parseInt(number));
            Desk.due("printed", desk.printed(0), "set a = " + number + ";\n");
        }
        desk = new Desk();
        desk.mustExpect("set a = ^100000;", "N M");
        desk.mustExpect("set a = ^999999;", "N M");
        desk.mustExpect("set a = ^1" + "0".repeat(1190) + ";", "N M");
    }

    // These are 1, if no more than 32 or 64 bits are kept.
    private static void numbersDoNotWrap() {
        Desk desk = new Desk();
        desk.mustExpect("set a = ^4294967297;", "N M");
        desk.mustExpect("source a par ^4294967297;", "M");
        desk.mustExpect("source a rate ^18446744073709551617;", "M");
        desk.mustExpect("use ^4294967297;", "M");
        desk.mustExpect("use ^4294967296;", "M");
    }

    // "with a 0 ahead of another digit"
    private static void zerosAhead() {
        Desk desk = new Desk();
        for (String number : "00 01 09 000 007 00000 01234 000000".split(" ")) {
            desk.mustExpect("set a = ^" + number + ";", "N M");
        }
        desk.mustExpect("source a par ^01;", "M");
        desk.mustExpect("use ^00;", "M");
        desk.mustRead(0, "set a = 0; set b0 = b00; set c = 10; source a00 par 10;", 1);
        desk.mustExpect("set a = 0 ^0;", ";");
    }

    // "a NUMBER with a small letter right behind it"
    private static void lettersBehindNumbers() {
        Desk desk = new Desk();
        for (String number : "0a 1z 5par 9999a 99999a 1a2b3 100000a 00a".split(" ")) {
            desk.mustExpect("set a = ^" + number + ";", "N M");
        }
        desk.mustExpect("set a = 5 ^a;", ";");
        desk.mustExpect("set a = 5^A;", ";");
        desk.mustExpect("source a par ^3rate 5;", "M");
        desk.mustRead(0, "source a par 3\nrate 5;", 1);
    }

    // "each other byte by itself"
    private static void otherBytes() {
        String used = "abcdefghijklmnopqrstuvwxyz0123456789;,:.=/# ";
        int others = 0;
        for (char b = 33; b <= 126; b++) {
            if (used.indexOf(b) < 0) {
                others++;
                Desk desk = new Desk();
                desk.mustExpect("^" + b, STATEMENT);
                desk.mustExpect("source ^" + b + b + "a;", "N");
                desk.mustExpect("source a^" + b + ";", "; par rate key side");
                desk.mustExpect("set a = 5^" + b + "5;", ";");
                desk.mustExpect("source a;\n^" + b, STATEMENT);
                desk.mustRead(0, "source a; #" + b, 1);
            }
        }
        Desk.due("other bytes", others, 94 - 36 - 7);
    }

    // "TOKENS of one, from the left, as long as can be"; "bytes 10 and 32 part them"
    private static void partedTokens() {
        Desk desk = new Desk();
        desk.mustRead(0, "source a;op b:map from a par 2;", 2);
        desk.mustRead(0, "\n\n source\n\na \n ;  \n", 1);
        desk.mustExpect("source a;^;", STATEMENT);
        desk.mustExpect("^sourcea;", STATEMENT);
        desk.mustExpect("^so urce a;", STATEMENT);
        desk.mustExpect("^so\nurce a;", STATEMENT);
        desk.mustExpect("source a ^b;", "; par rate key side");
        desk.mustExpect("source a ^par5;", "; par rate key side");
        desk.mustExpect("set a = 1 ^2;", ";");
        desk.mustExpect("set a =^= 1;", "N M");
        desk.mustRead(0, "set a=b;set c=5;source d side e,f;op g:map from d.e pass 1/2;", 2);
        desk.mustExpect("^:", STATEMENT);
        desk.mustRead(0, " ", 0);
        desk.mustRead(0, "\n", 0);
    }

    // "1200 at most"; "THE END is behind the last byte"
    private static void fullFiles() {
        Desk desk = new Desk();
        desk.mustRead(0, " ".repeat(1191) + "source a;", 1);
        Desk.due("its place", desk.x.operator(0, 0, 10), 1198);
        desk = new Desk();
        desk.mustExpect(" ".repeat(1192) + "source a^", "; par rate key side");
        Desk.due("the end of a full file", desk.x.fault(2), 1200);
        desk = new Desk();
        desk.mustRead(0, "source a;" + "\n".repeat(1191), 1);
        desk = new Desk();
        desk.mustRead(0, "#" + " ".repeat(1199), 0);
        Desk.due("a comment of blanks", desk.printed(0), "#\n");
        desk = new Desk();
        desk.mustFail(3, "^#" + "x".repeat(1199));
        desk = new Desk();
        desk.mustRead(0, "source a;" + "#\n".repeat(40) + " ".repeat(1111), 1);
        desk.mustRead(0, "", 0);
        desk.mustExpect("source a^", "; par rate key side");
    }

    // "a COMMENT: # and all up to the next 10, or the end (no TOKEN)"
    private static void commentEnds() {
        Desk desk = new Desk();
        desk.mustRead(0, "source#a\nb#c\n;#", 1);
        Desk.due("printed", desk.printed(0), "source b;\n# a\n# c\n#\n");
        desk.mustRead(0, "source a#;\n;", 1);
        desk.mustExpect("source a#;^", "; par rate key side");
        desk.mustExpect("#source a;\n^a", STATEMENT);
        desk.mustRead(0, "##\n# # #\n", 0);
        Desk.due("printed", desk.printed(0), "# #\n# # #\n");
        desk.mustExpect("source a par 1#2\n^3;", "; rate key side");
        desk.mustRead(0, "#a\n\n#b", 0);
        Desk.due("two of them", desk.x.count(0, 3), 2);
    }

    private static String textOf(String thing) {
        switch (thing) {
            case "N":
                return "zz";
            case "M":
                return "1";
            case "END":
                return "";
            default:
                return thing;
        }
    }

    private static void dueAt(String ahead, String may) {
        Desk desk = new Desk();
        int place = ahead.length() + 1;
        for (String thing : Desk.THINGS) {
            String text = ahead + " " + textOf(thing);
            if (List.of(may.split(" ")).contains(thing)) {
                desk.readText(0, text);
                Desk.due(thing + " may stand behind " + ahead, desk.x.fault(0) == 1 && desk.x.fault(2) == place ? 1 : 0, 0);
            } else {
                desk.mustExpect(ahead + " ^" + textOf(thing), may);
            }
        }
        Desk other = new Desk();
        for (String token : WRONG_TOKENS) {
            other.mustExpect(ahead + " ^" + token, may);
        }
    }

    // "1 the TOKEN may not stand there: EXPECTED are all THINGS that may"
    private static void whatMayStand() {
        String[] places = {
            "", STATEMENT, "use", "M", "use 1", ";", "use 1 ;", STATEMENT,
            "set", "N", "set a", "=", "set a =", "N M", "set a = 1", ";", "set a = b", ";", "set a = b ;", STATEMENT,
            "loop", "N", "loop a", "to", "loop a to", "N", "loop a to b", ";", "loop a to b ;", STATEMENT,
            "source", "N", "source a", "; par rate key side", "source a ;", STATEMENT,
            "op", "N", "op a", ":", "op a :", KINDS, "op a : map", "from", "op a : sink", "from", "op a : map from", "N",
            "op a : map from b", "; , . par pass key side", "op a : map from b .", "N",
            "op a : map from b . c", "; , par pass key side", "op a : map from b ,", "N",
            "op a : map from b , c", "; , . par pass key side", "op a : map from b ;", STATEMENT,
            "op a : union from b , c , d , e", "; , . par key", "op a : union from b , c , d , e . f", "; , par key",
            "op a : union from b , c , d , e ,", "N", "op a : sink from b . c", "; , par",
            "source a par", "M", "source a par 64", "; rate key side", "source a rate", "M", "source a rate 5", "; par key side",
            "op a : map from b pass", "M", "op a : map from b pass 0", "/", "op a : map from b pass 1 /", "M",
            "op a : map from b pass 1 / 1", "; par key side", "source a key", "N", "source a key k", "; par rate side",
            "op a : fold from b keep", "M", "op a : fold from b keep 1", "; par pass side",
            "source a side", "N", "source a side x", "; , par rate key", "source a side x ,", "N",
            "source a side x , y , z", "; , par rate key", "source a side x , y , z ,", "N",
        };
        for (int i = 0; i < places.length; i += 2) {
            dueAt(places[i], places[i + 1]);
        }
    }

    private static String told(String property) {
        switch (property) {
            case "pass":
                return " pass 1 / 2";
            case "key":
                return " key k";
            case "side":
                return " side x , y";
            default:
                return " " + property + " 3";
        }
    }

    private static void duePropertiesLeft(String start, String first, List<String> may, List<String> told) {
        StringBuilder text = new StringBuilder(start);
        for (String property : told) {
            text.append(told(property));
        }
        StringBuilder expected = new StringBuilder(";");
        boolean sidesLast = !told.isEmpty() && told.get(told.size() - 1).equals("side");
        expected.append(told.isEmpty() ? first : sidesLast ? " ," : "");
        for (String property : may) {
            expected.append(told.contains(property) ? "" : " " + property);
        }
        Desk desk = new Desk();
        for (String property : Desk.THINGS) {
            if ("par rate pass key keep side".contains(property) && !List.of(expected.toString().split(" ")).contains(property)) {
                desk.mustExpect(text + " ^" + property, expected.toString());
            }
        }
        desk.mustExpect(text + "^", expected.toString());
    }

    // "PROPERTY, each at most once, in any order", and which ones a kind may have
    private static void whatMayStandBehindProperties() {
        String[] kinds = {"source a", "", "par rate key side", "map", " , .", "par pass key side",
            "filter", " , .", "par pass key side", "flat", " , .", "par pass key side", "span", " , .", "par pass keep side",
            "join", " , .", "par pass keep side", "union", " , .", "par key", "fold", " , .", "par pass keep side",
            "sink", " , .", "par"};
        for (int i = 0; i < kinds.length; i += 3) {
            String start = i == 0 ? kinds[0] : "op a : " + kinds[i] + " from b";
            List<String> may = List.of(kinds[i + 2].split(" "));
            for (int some = 0; some < 1 << may.size(); some++) {
                List<String> told = new ArrayList<>();
                for (int bit = 0; bit < may.size(); bit++) {
                    if ((some >> bit & 1) != 0) {
                        told.add(may.get(bit));
                    }
                }
                duePropertiesLeft(start, kinds[i + 1], may, told);
                Collections.reverse(told);
                duePropertiesLeft(start, kinds[i + 1], may, told);
            }
        }
    }

    private static void dueBounds(String ahead, String behind, int least, int greatest) {
        Desk desk = new Desk();
        int[] numbers = {0, least - 1, least, least + 1, greatest - 1, greatest, greatest + 1, 64, 65, 999, 1000, 9999, 10000, 99999};
        for (int number : numbers) {
            if (number < 0 || number > 99999) {
                continue;
            }
            if (number < least || number > greatest) {
                desk.mustFail(2, ahead + "^" + number + behind);
            } else {
                Desk.due("read with " + number + " behind " + ahead, desk.readText(0, ahead + number + behind) >= 0 ? 1 : 0, 1);
                Desk.due("the number", desk.printed(0).contains((ahead + number).replaceAll("^.*; ", "")) ? 1 : 0,
                    ahead.startsWith("use") ? 0 : 1);
            }
        }
    }

    // "2 a NUMBER is out of its bounds: par 1 .. 64, rate 1 .. 99999, .." and "(set: any)"
    private static void bounds() {
        dueBounds("source a par ", ";", 1, 64);
        dueBounds("source a rate ", ";", 1, 99999);
        dueBounds("source a key k; op b: fold from a pass ", "/7;", 0, 999);
        dueBounds("source a key k; op b: fold from a pass 7/", ";", 1, 999);
        dueBounds("source a key k; op b: span from a keep ", ";", 1, 9999);
        dueBounds("set a = ", ";", 0, 99999);
        Desk desk = new Desk();
        for (int k = 1; k <= 5; k++) {
            desk.mustRead(0, "use " + k + ";", 0);
        }
        desk.mustFail(2, "use ^6;");
        desk.mustFail(2, "use ^99999;");
        desk.mustFail(2, "use ^6");
        desk.mustFail(2, "source a par ^0");
        desk.mustFail(2, "op a: map from b pass ^1000;");
    }

    // "5th INPUT (its first N), 4th side (its N)"
    private static void tooManyInputsAndSides() {
        Desk desk = new Desk();
        desk.mustRead(0, "source s side a, b; op u: union from s.a, s.b, s.a, s.b; op v: sink from s.a, s, s.b, s;", 3);
        desk.mustFail(3, "source s side a, b; op u: union from s.a, s.b, s.a, s.b, ^s.a;");
        desk.mustFail(3, "op u: map from a, b, c, d, ^e.f");
        desk.mustExpect("op u: map from a, b, c, d, ^par", "N");
        desk.mustRead(0, "source s side a, b, c; source t side a, b, c;", 2);
        desk.mustFail(3, "source s side a, b, c; source t side a, b, c, ^d;");
        desk.mustExpect("source s side a, b, c, ^5;", "N");
        desk.mustFail(3, "op u: map from a side a, b, c, ^d par 70;");
    }

    // "41st operator (sources, too; its N), 17th set, 9th loop (its first N)"
    private static void tooManyInAllFiles() {
        Desk desk = new Desk();
        desk.putFile(1, rising("source a", 1, 20, ";") + rising("set a", 1, 8, " = 1;"));
        String second = rising("op b", 1, 19, ": sink from a1;") + rising("set b", 1, 8, " = 1;");
        desk.putFile(2, second);
        desk.putFile(3, "op u: union from a1, a1;" + "loop u to u;".repeat(8));
        desk.mustRead(0, "use 1; use 2; use 3;", 40);
        Desk.due("sets", desk.x.count(0, 1), 16);
        Desk.due("loops", desk.x.count(0, 2), 8);
        desk.mustFail(3, "use 1; use 2; use 3; op ^v");
        desk.mustFail(3, "use 1; use 2; use 3; source ^v");
        desk.mustFail(3, "use 1; use 2; use 3; set ^v");
        desk.mustFail(3, "use 1; use 2; use 3; loop ^v");
        desk.mustExpect("use 1; use 2; use 3; op ^op", "N");
        desk.mustExpect("use 1; use 2; use 3; set ^5", "N");
        mustFailIn(desk, "source v; use 1; use 2; use 3;", 3, 3, 3);
        mustFailIn(desk, "set v = 1; use 1; use 2; use 3;", 3, 2, second.indexOf("b8 = 1"));
        mustFailIn(desk, "loop v to w; use 1; use 2; use 3;", 3, 3, 24 + 7 * 12 + 5);
    }

    // "the 31st use (its M)", "(2 ahead of 3.)"
    private static void tooManyUses() {
        Desk desk = new Desk();
        String thirty = "use 5;".repeat(30);
        desk.mustRead(0, thirty + "source a;", 1);
        desk.mustFail(3, thirty + "use ^5;");
        desk.mustFail(3, thirty + "use ^5");
        desk.mustFail(3, thirty + "use ^0;");
        desk.mustFail(2, thirty + "use ^6;");
        desk.mustExpect(thirty + "use ^a;", "M");
        desk.mustExpect(thirty + "^5;", STATEMENT);
        desk.mustRead(0, thirty + "source a;", 1);
        desk = new Desk();
        desk.putFile(1, "use 2;".repeat(9));
        desk.mustRead(0, "use 1; ".repeat(3), 0);
        desk.mustFail(3, "use 1;".repeat(3) + "use ^1;");
        mustFailIn(desk, "use 2;" + "use 1;".repeat(3), 3, 1, 8 * 6 + 4);
    }

    // "41st COMMENT": met when the token behind it is looked at
    private static void tooManyComments() {
        Desk desk = new Desk();
        String forty = "#\n".repeat(40);
        desk.mustRead(0, forty + "source a;", 1);
        Desk.due("forty comments", desk.x.count(0, 3), 40);
        desk.mustFail(3, forty + "^#\n)");
        desk.mustFail(3, forty + "source a; ^# x");
        desk.mustExpect(forty + "^) # x", STATEMENT);
        desk.mustFail(6, forty + "source a; source ^a # x\n;");
        desk.mustFail(2, forty + "source a par ^65 # x\n;");
        desk.mustFail(3, forty + "use 0 ^# x\n;");
        desk.mustFail(4, forty + "use ^0; # x");
        desk.mustFail(3, forty + "op a: map from b; ^#");
        desk = new Desk();
        desk.putFile(1, "#\n".repeat(13));
        desk.mustRead(0, "use 1; use 1; use 1; #", 0);
        mustFailIn(desk, "use 1; use 1; use 1; use 1;", 3, 1, 2);
        desk.putFile(1, ")");
        mustFailIn(desk, "#\n".repeat(40) + "use 1; #", 1, 1, 0);
        desk.mustRead(0, "#", 0);
    }

    // "one with more than 60 bytes behind its #, blanks at both ends cut"
    private static void longComments() {
        Desk desk = new Desk();
        String sixty = "x" + " ".repeat(58) + "y";
        desk.mustRead(0, "#" + sixty, 0);
        Desk.due("sixty bytes", desk.printed(0), "# " + sixty + "\n");
        desk.mustRead(0, "#" + " ".repeat(200) + sixty + " ".repeat(200) + "\nsource a;", 1);
        Desk.due("sixty bytes", desk.printed(0), "# " + sixty + "\nsource a;\n");
        desk.mustFail(3, "^#" + sixty + "z");
        desk.mustFail(3, "^# x" + sixty + " \nsource a;");
        desk.mustRead(0, "#" + " ".repeat(61) + "\nsource a;", 1);
        Desk.due("nothing is left", desk.printed(0), "#\nsource a;\n");
        desk.mustRead(0, "#" + "#".repeat(60), 0);
        desk.mustFail(3, "^#" + "#".repeat(61));
        desk.mustFail(3, "source ^#" + "~".repeat(61) + "\n)");
        desk.mustExpect("source ^) #" + "~".repeat(61), "N");
    }

    // "4 (at the M, when the ; behind it was read) FILE M is being read."
    private static void filesBeingRead() {
        Desk desk = new Desk();
        desk.mustFail(4, "source a; use ^0 ;");
        desk.mustExpect("use 0 ^a;", ";");
        desk.mustExpect("use 0^", ";");
        desk.mustFail(3, "use 0 ^#" + "x".repeat(61) + "\n;");
        desk.mustFail(4, "use ^0 # x\n;");
        for (int k = 1; k <= 5; k++) {
            Desk other = new Desk();
            other.putFile(k, "use " + k + ";");
            Desk.due("read of a file that uses itself", other.x.read(0, k), -14);
            other.dueFault("a file that uses itself", 4, k, 4, 0);
            other.putFile(k, "use 0; source b;");
            other.putFile(0, "source a;");
            Desk.due("read of a file that uses another", other.x.read(0, k), 2);
            other.putFile(0, "  use " + k + " ;");
            Desk.due("read of a file used by what it uses", other.x.read(0, k), -14);
            other.dueFault("a file used by what it uses", 4, 0, 6, 0);
        }
        desk = new Desk();
        desk.putFile(1, "use 2; use 3; use 2;");
        desk.putFile(2, "use 3; use 3;");
        desk.putFile(3, "#\n");
        desk.mustRead(0, "use 1; use 2; use 3; use 1;", 0);
        Desk.due("comments", desk.x.count(0, 3), 13);
    }

    // "6 (behind 3) an operator's N, a set's N was told by an earlier one, a side's N by the same operator."
    private static void toldTwice() {
        Desk desk = new Desk();
        desk.putFile(1, "source a side x; set a = 1;");
        desk.mustFail(6, "use 1; source ^a");
        desk.mustFail(6, "use 1; op ^a");
        desk.mustFail(6, "use 1; set ^a");
        mustFailIn(desk, "source a; use 1;", 6, 1, 7);
        mustFailIn(desk, "set a = a; use 1;", 6, 1, 21);
        mustFailIn(desk, "use 1; use 1;", 6, 1, 7);
        desk.mustRead(0, "use 1; source x side a; set x = a; source b side x;", 3);
        desk.mustFail(6, "source a side x, ^x, y;");
        desk.mustFail(6, "source a side x, y, ^x");
        desk.mustFail(6, "source a side x, y, ^y par 65;");
        desk.mustRead(0, "source a; source aa; source a0; source b;", 4);
        desk = new Desk();
        desk.mustFail(6, rising("source a", 1, 39, ";") + "source ^a39;");
        desk.mustFail(3, rising("source a", 1, 40, ";") + "source ^a40;");
        desk.mustFail(6, rising("set a", 1, 15, "=1;") + "set ^a15;");
        desk.mustFail(3, rising("set a", 1, 16, "=1;") + "set ^a16;");
        desk.mustFail(3, "source s side a, b, c, ^c;");
    }

    // "it belongs to the next STATEMENT but use that begins behind it in what is read, also in another FILE, .."
    private static void whoseComment() {
        Desk desk = new Desk();
        desk.putFile(1, "# in 1\n");
        desk.putFile(2, "source b; # behind b\n");
        desk.mustRead(0, "# 1\nuse 1; # 2\n", 0);
        Desk.due("the end's", desk.printed(0), "# 1\n# in 1\n# 2\n");
        desk.mustRead(0, "# 1\nuse 1; use 2; # 2\nsource a;", 2);
        Desk.due("in another file", desk.printed(0), "# 1\n# in 1\nsource b;\n# behind b\n# 2\nsource a;\n");
        desk.mustRead(0, "source a # 1\n; # 2\nset b # 3\n= # 4\n5 # 5\n;", 1);
        Desk.due("within a statement", desk.printed(0), "source a;\n# 1\n# 2\nset b = 5;\n# 3\n# 4\n# 5\n");
        desk.mustRead(0, "source a; # 1\nuse # 2\n3 # 3\n; # 4\nuse 4; # 5\nset c = 1;", 1);
        Desk.due("at a use", desk.printed(0), "source a;\n# 1\n# 2\n# 3\n# 4\n# 5\nset c = 1;\n");
    }

    // As many of all as may be, in as many files, with as many words in each.
    private static void mostTokens() {
        Desk desk = new Desk();
        String behind = ":join from s.x,s.y par 1 pass 1/2 keep 1 side a,b,c;";
        desk.putFile(1, "source s par 1 rate 1 key k side x,y,z;" + rising("op a", 1, 19, behind));
        desk.putFile(2, rising("op a", 20, 38, behind));
        desk.putFile(3, "op u:union from s.x,s.y,s.z,s.x par 1 key k;" + "loop u to u;".repeat(8) + rising("set a", 1, 16, "=a;"));
        desk.mustRead(0, "use 1;use 2;use 3;" + "use 4;".repeat(27), 40);
        Desk.due("sets", desk.x.count(0, 1), 16);
        Desk.due("loops", desk.x.count(0, 2), 8);
        desk.mustFail(3, "use 1;use 2;use 3;" + "use 4;".repeat(27) + "use ^4;");
        desk.mustFail(3, "use 1;use 2;use 3;" + "use 4;".repeat(27) + "set ^a;");
    }
}
