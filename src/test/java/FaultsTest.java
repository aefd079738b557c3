/** Promises 3 and 4: which texts are taken, and the first fault of those that aren't. */
public final class FaultsTest {
    private static final Check CHECK = new Check();

    public static void main(String[] args) {
        tokens();
        lines();
        ranges();
        toldAlready();
        expressions();
        wordsOfTheLanguage();
        firstAlongTheText();
        behindTheText();
        fullTape();
        CHECK.end();
    }

    private static void tokens() {
        CHECK.part("tokens");
        CHECK.fault("", 0, -1);
        CHECK.fault(" \n ", 0, -1);
        CHECK.fault("near 1;\n", 0, -1);
        CHECK.fault("near1;house a1 2;", 0, -1);
        CHECK.fault("near\t1;", 1, 4);
        CHECK.fault("near\r1;", 1, 4);
        CHECK.fault("Near 1;", 1, 0);
        CHECK.fault("near 1\u00e9;", 1, 6);
        CHECK.fault("near 1 ;#", 1, 8);
        CHECK.fault("house abcdef 1 1;", 0, -1);
        CHECK.fault("house abcdefg 1 1;", 1, 6);
        CHECK.fault("near 0000000000000000000001;", 0, -1);
        CHECK.fault("near 4294967297;", 2, 5);
        CHECK.fault("near 18446744073709551617;", 2, 5);
    }

    private static void lines() {
        CHECK.part("lines");
        CHECK.fault(";", 1, 0);
        CHECK.fault("near 1;;", 1, 7);
        CHECK.fault("near 1", 1, 6);
        CHECK.fault("near 1  ", 1, 8);
        CHECK.fault("near", 1, 4);
        CHECK.fault("near ;", 1, 5);
        CHECK.fault("near 1 2;", 1, 7);
        CHECK.fault("reach 1;", 1, 0);
        CHECK.fault("dial 1;", 1, 0);
        CHECK.fault("1;", 1, 0);
        CHECK.fault("house 1 1;", 1, 6);
        CHECK.fault("house a 1;", 1, 9);
        CHECK.fault("house near 1 1;", 1, 6);
        CHECK.fault("house hour 1 1;", 1, 6);
        CHECK.fault("house or 1 1;", 1, 6);
        CHECK.fault("house nears 1 1;", 0, -1);
        CHECK.fault("house a 1 1;turn near 1 1;", 1, 17);
        CHECK.fault("house a 1 1;turn b 1 1;", 4, 17);
        CHECK.fault("turn a 1 1;house a 1 1;", 4, 5);
        CHECK.fault("house a 1 1;sound b 1 1;", 4, 18);
        CHECK.fault("house a 1 1;sound a 1;", 1, 21);
    }

    private static void ranges() {
        CHECK.part("ranges");
        CHECK.fault("house a 99 9;", 0, -1);
        CHECK.fault("house a 100 9;", 2, 8);
        CHECK.fault("house a 99 10;", 2, 11);
        CHECK.fault("house a 0 0;turn a 99 99;turn a 99 0;", 0, -1);
        CHECK.fault("house a 0 0;turn a 100 99;", 2, 19);
        CHECK.fault("house a 0 0;turn a 99 100;", 2, 22);
        CHECK.fault("house a 0 0;sound a 99 9;sound a 0 1;", 0, -1);
        CHECK.fault("house a 0 0;sound a 100 9;", 2, 20);
        CHECK.fault("house a 0 0;sound a 9 0;", 2, 22);
        CHECK.fault("house a 0 0;sound a 9 10;", 2, 22);
        CHECK.fault("near 20;", 0, -1);
        CHECK.fault("near 21;", 2, 5);
        CHECK.fault("often 1;", 0, -1);
        CHECK.fault("often 9;", 0, -1);
        CHECK.fault("often 0;", 2, 6);
        CHECK.fault("often 10;", 2, 6);
        CHECK.fault("fade 100;", 0, -1);
        CHECK.fault("fade 101;", 2, 5);
        CHECK.fault("seed 99999;", 0, -1);
        CHECK.fault("seed 100000;", 2, 5);
        String six = "house a 1 1;house b 1 1;house c 1 1;house d 1 1;house e 1 1;house f 1 1;";
        CHECK.fault(six, 0, -1);
        CHECK.fault(six + " house a", 2, 73);
        String ten = "house a 1 1;" + "turn a 1 1;".repeat(10);
        CHECK.fault(ten, 0, -1);
        CHECK.fault(ten + "turn b", 2, 122);
        StringBuilder twelve = new StringBuilder("house a 1 1;");
        for (int i = 0; i < 12; i++) {
            twelve.append("sound a ").append(i).append(" 1;");
        }
        CHECK.fault(twelve.toString(), 0, -1);
        CHECK.fault(twelve + "sound a 1", 2, twelve.length());
    }

    private static void toldAlready() {
        CHECK.part("told already");
        CHECK.fault("house a 1 1;house a 1 1;", 3, 18);
        CHECK.fault("house a 1 1;house aa 1 1;", 0, -1);
        CHECK.fault("house a 1 1;sound a 5 1;sound a 5 1;", 3, 32);
        CHECK.fault("house a 1 1;sound a 5 1;sound a 05 0;", 3, 32);
        CHECK.fault("house a 1 1;house b 1 1;sound a 5 1;sound b 5 1;sound a 6 1;", 0, -1);
        CHECK.fault("near 1;near 1;", 3, 7);
        CHECK.fault("often 1;often", 3, 8);
        CHECK.fault("fade 1; fade 101;", 3, 8);
        CHECK.fault("seed 0;seed 0;", 3, 7);
        CHECK.fault("law reach 1;law learn 1;law drift 1;", 0, -1);
        CHECK.fault("law reach 1;law reach", 3, 16);
        CHECK.fault("law learn 1;law learn 1;", 3, 16);
        CHECK.fault("law drift 1;law drift 1;", 3, 16);
    }

    private static void expressions() {
        CHECK.part("expressions");
        CHECK.fault("law", 1, 3);
        CHECK.fault("law near 1;", 1, 4);
        CHECK.fault("law a 1;", 1, 4);
        CHECK.fault("law reach;", 1, 9);
        CHECK.fault("law reach a;", 1, 10);
        CHECK.fault("law reach reach;", 1, 10);
        CHECK.fault("law reach 9999;", 0, -1);
        CHECK.fault("law reach 10000;", 2, 10);
        CHECK.fault("law reach dial gain;", 1, 15);
        CHECK.fault("law reach 1+;", 1, 12);
        CHECK.fault("law reach -1;", 1, 10);
        CHECK.fault("law reach 1+-1;", 1, 12);
        CHECK.fault("law reach ();", 1, 11);
        CHECK.fault("law reach (1;", 1, 12);
        CHECK.fault("law reach 1);", 1, 11);
        CHECK.fault("law reach (1", 1, 12);
        CHECK.fault("law reach 1<2<3;", 1, 13);
        CHECK.fault("law reach 1<2+1=3;", 1, 15);
        CHECK.fault("law reach (1<2)<3;", 0, -1);
        CHECK.fault("law reach 1<(2<3);", 0, -1);
        CHECK.fault("law reach 1<2 and 3<4 or not 5<6;", 0, -1);
        CHECK.fault("law reach 1 + not 2;", 1, 14);
        CHECK.fault("law reach 1 < not 2;", 1, 14);
        CHECK.fault("law reach 1 * not 2;", 1, 14);
        CHECK.fault("law reach 1 + (not 2);", 0, -1);
        CHECK.fault("law reach not not (not 2);", 0, -1);
        CHECK.fault("law reach 1 not 2;", 1, 12);
        CHECK.fault("law reach not;", 1, 13);
        CHECK.fault("law reach 1 <= 2;law learn 1 >= 2;law drift 1 <> 2;", 0, -1);
        CHECK.fault("law reach 1 < = 2;", 1, 14);
        CHECK.fault("law reach 1 < > 2;", 1, 14);
        CHECK.fault("law reach 1 => 2;", 1, 13);
        CHECK.fault("law reach 1 =< 2;", 1, 13);
        CHECK.fault("law reach 1 >< 2;", 1, 13);
        CHECK.fault("law reach 1 <=> 2;", 1, 14);
        CHECK.fault("law reach 1 == 2;", 1, 13);
        CHECK.fault("law reach ((((((((1))))))));", 0, -1);
        CHECK.fault("law reach (((((((((1)))))))));", 2, 18);
        CHECK.fault("law reach ((((((((1))))))))+((((((((1))))))));", 0, -1);
        CHECK.fault("law reach 1(((((((((1;", 1, 11);
        String half = "1" + "+1".repeat(15);
        String all = "law reach " + half + "+" + half + ";law learn 1;";
        CHECK.part("knots");
        CHECK.fault(all, 0, -1);
        CHECK.fault(all + "law drift 1;", 2, all.length() + 10);
        CHECK.fault("law reach " + "not ".repeat(63) + "1;", 0, -1);
        CHECK.fault("law reach " + "not ".repeat(64) + "1;", 2, 266);
        CHECK.fault("law reach " + "not ".repeat(64) + "(1;", 2, 267);
        CHECK.fault("law reach " + "not ".repeat(64) + "<", 1, 266);
        CHECK.fault("law reach " + "not ".repeat(64) + "not 1", 2, 266);
        CHECK.fault("law reach " + "1+".repeat(31) + "1+1+1;", 2, 10 + 64);
        CHECK.fault("law reach " + "1*".repeat(31) + "not", 1, 10 + 62);
        CHECK.fault("law reach " + "((((((((" + "1+".repeat(31) + "1))))))));", 0, -1);
        // a sign that can't stand there is fault 1 before it is too much
        CHECK.fault("law reach not 1<2 " + "and 1 ".repeat(28) + "and 1<2<3;", 1, 193);
        CHECK.fault("law reach not 1<2 " + "and 1 ".repeat(28) + "and 1<2+3;", 2, 193);
    }

    private static void wordsOfTheLanguage() {
        CHECK.part("words of the language");
        String lineWords = " house turn sound near often fade seed law ";
        String laws = " reach learn drift ";
        String names = " dial gain far kind heard knows hour ";
        for (String word : (lineWords + laws + names + " or and not ").trim().split(" +")) {
            int there = word.length();
            boolean isLine = lineWords.contains(" " + word + " ");
            CHECK.fault(word, 1, isLine ? there : 0);
            CHECK.fault("house " + word + " 1 1;", 1, 6);
            CHECK.fault("house a 1 1;turn " + word + " 1 1;", 1, 17);
            CHECK.fault("house a 1 1;sound " + word + " 1 1;", 1, 18);
            CHECK.fault("near " + word + ";", 1, 5);
            if (laws.contains(" " + word + " ")) {
                CHECK.fault("law " + word + " 1;", 0, -1);
            } else {
                CHECK.fault("law " + word + " 1;", 1, 4);
            }
            if (names.contains(" " + word + " ")) {
                CHECK.fault("law reach " + word + ";", 0, -1);
            } else {
                CHECK.fault("law reach " + word + ";", 1, word.equals("not") ? 13 : 10);
            }
            CHECK.fault("house " + word + "s 1 1;house x" + word + " 1 1;", 0, -1);
        }
    }

    private static void behindTheText() {
        CHECK.part("what is behind the text isn't looked at");
        dueCut("near 2", "1;", 1, 6);
        dueCut("house", "s a 1 1;", 1, 5);
        dueCut("near 2;", ";;;;", 0, -1);
        dueCut("near 2;", "near", 0, -1);
        dueCut("law reach 1<", "=2;", 1, 12);
        dueCut("law reach 1<=", "2;", 1, 13);
        dueCut("law reach 1>=", "2;", 1, 13);
        dueCut("law reach 1<>", "2;", 1, 13);
    }

    private static void dueCut(String text, String behind, int fault, int place) {
        StaticDial dial = new StaticDial();
        CHECK.due("a number above all", Check.tell(dial, "near 99;"), -1);
        String all = text + behind + " ".repeat(40 - text.length() - behind.length());
        for (int i = 0; i < 40; i += 20) {
            java.nio.ByteBuffer bytes = java.nio.ByteBuffer.wrap(all.substring(i, i + 20).getBytes());
            dial.feed(bytes.getInt(), bytes.getInt(), bytes.getInt(), bytes.getInt(), bytes.getInt());
        }
        dial.text(text.length());
        CHECK.due("fault(0) of " + text + "|" + behind, dial.fault(0), fault);
        CHECK.due("fault(1) of " + text + "|" + behind, dial.fault(1), place);
    }

    private static void fullTape() {
        CHECK.part("a full tape");
        for (char sign : "; (a0<=#".toCharArray()) {
            StaticDial dial = new StaticDial();
            CHECK.due("700 of " + sign, Check.tell(dial, ("" + sign).repeat(700)), sign == ' ' ? 0 : -1);
            CHECK.due("fault(1) of 700 of " + sign, dial.fault(1), sign == ' ' ? -1 : 0);
        }
        CHECK.fault("law reach" + "(".repeat(691), 2, 17);
        CHECK.fault("law reach " + "not".repeat(230), 1, 10);
        CHECK.fault("law reach " + "not ".repeat(172), 2, 10 + 256);
        CHECK.fault("law reach" + "1+".repeat(345), 2, 9 + 64);
        CHECK.fault("near 1;" + ";".repeat(693), 1, 7);
        CHECK.fault("house a 1 1;" + "turn a 1 1;".repeat(62), 2, 122);
    }

    private static void firstAlongTheText() {
        CHECK.part("the first along the text");
        CHECK.fault("near 21;toolongword", 2, 5);
        CHECK.fault("near 1;toolongword;near 21;", 1, 7);
        CHECK.fault("house a 100 10;", 2, 8);
        CHECK.fault("house a 1 1;turn b 100 100;", 4, 17);
        CHECK.part("all stays with a fault");
        StaticDial dial = Check.told("house a 10 1;house b 11 1;sound a 0 1;");
        dial.go(3);
        dial.note(1, 1, true);
        dial.keep();
        dial.turn(0, 50);
        CHECK.due("text", Check.tell(dial, "house a 1 1;house b 2 2;house c 3 3;near 99;"), -1);
        CHECK.due("fault(0)", dial.fault(0), 2);
        CHECK.due("fault(1)", dial.fault(1), 41);
        CHECK.due("count(0)", dial.count(0), 2);
        CHECK.due("count(4)", dial.count(4), 3);
        CHECK.due("count(8)", dial.count(8), 1);
        CHECK.due("count(10)", dial.count(10), 1);
        CHECK.due("house(0, 0)", dial.house(0, 0), 50);
        CHECK.due("back()", dial.back(), 3);
        CHECK.due("text(1)", dial.text(1), -2);
        CHECK.due("fault(0) behind -2", dial.fault(0), 2);
        CHECK.due("text(0)", dial.text(0), 0);
        CHECK.due("fault(0)", dial.fault(0), 0);
        CHECK.due("fault(1)", dial.fault(1), -1);
        CHECK.due("fault(2)", dial.fault(2), -1);
        CHECK.due("fault(-1)", dial.fault(-1), -1);
        CHECK.due("count(0)", dial.count(0), 0);
    }
}
