/** For each promise of the document: ordinary calls, the edges that it names, and wrong ones. */
public final class PromiseTests extends Checks {
    private static final int[] WRONG_PLACES = {-2, 60, LEAST, GREATEST};

    // ---- texts

    private static void promise1() {
        Keeper x = new Keeper();
        due("NONE", NONE, -1);
        due("a new one", all(x), "|" + FIRST_STYLES + "|0 0 0 0 0 0 0 0|0|0|0|-1|");
        for (int what = 0; what <= 8; what++) {
            due("size " + what, x.size(what), 0);
        }
        fails("no output", x, NO_INDEX, () -> x.output(0));
        fails("no saved state 0", x, NO_STATE, () -> x.restore(0));
        fails("no saved state 1", x, NO_STATE, () -> x.restore(1));
        fails("nothing to undo", x, NO_STATE, x::undo);
        Keeper y = keeper(TREE);
        due("objects are apart", x.size(0) + " " + y.size(0), "0 7");
    }

    private static void promise2() {
        Keeper x = new Keeper();
        due("all zero", x.append(0, 0, 0, 0, 0), 0);
        due("order of bytes", x.append(0x61620000, 0x00006300, 0x00000064, 0x65000066, 0), 6);
        due("the most significant byte first", x.insert(-1, 0, 6), 0);
        due("the name", name(x, 0), "abcdef");
        due("20 bytes", x.append(0x7f7f7f7f, -1, 0x80808080, 0x01010101, 0xff01ff01), 20);
        for (int length = 40; length <= 700; length += 20) {
            due("length", x.append(-1, -1, -1, -1, -1), length);
        }
        due("nothing more fits, but nothing is nothing", x.append(0, 0, 0, 0, 0), 700);
        fails("one byte more", x, NO_STATE, () -> x.append(0, 0, 0, 0, 1));
        x.find(false);
        for (int i = 0; i < 34; i++) {
            x.append(-1, -1, -1, -1, -1);
        }
        due("up to 699", x.append(-1, -1, -1, -1, 0x00ffffff), 699);
        fails("two bytes more than 699", x, NO_STATE, () -> x.append(0x01000000, 0, 0, 0, 1));
        due("not a part of them", x.size(5), 699);
        due("one byte more than 699", x.append(0, 0, 0x00010000, 0, 0), 700);
        x.find(false);
        for (int i = 0; i < 34; i++) {
            x.append(-1, -1, -1, -1, -1);
        }
        due("up to 685", x.append(-1, 0, 1, 0, 0), 685);
        fails("by all parameters", x, NO_STATE, () -> x.append(-1, -1, -1, -1, 0));
        fails("by the first one", x, NO_STATE, () -> x.append(1, -1, -1, -1, -1));
        fails("by the second one", x, NO_STATE, () -> x.append(-1, 1, -1, -1, -1));
        fails("by the third one", x, NO_STATE, () -> x.append(-1, -1, 1, -1, -1));
        fails("by the fourth one", x, NO_STATE, () -> x.append(-1, -1, -1, 1, -1));
        fails("by the fifth one", x, NO_STATE, () -> x.append(-1, -1, -1, -1, 1));
        due("four parameters", x.append(0x01020300, -1, 0x01020003, -1, 0x00010000), 700);
    }

    private static void promise3() {
        Keeper x = new Keeper();
        due("an outline", load(x, " *a ; \n** bb plain;***c folded;**d plain folded ;*e\n"), NONE);
        due("ends too early", error(x), "1 at 52");
        due("an outline", load(x, " *a ; \n** bb plain;***c folded;**d plain folded ;*e;\n"), 5);
        due("its row", row(x), "1a 2bb! 3c+ 2d!+ 1e");
        due("no error", error(x), "0 at -1");
        due("the buffer is empty", x.size(5), 0);
        due("no spaces at all", load(x, "style2roman from 7own on;*plain;*folded folded;*style;*plain plain folded;*aplain;*abcdefgh;style 1 lower;"), 6);
        due("words as names", row(x), "1plain 1folded+ 1style 1plain!+ 1aplain 1abcdefgh");
        due("its styles", styles(x), "2,1,0,0 3,7,1,1 0,1,0,0 0,1,0,0 0,1,0,0 0,1,0,0");
        due("all styles", load(x, "style1none;style2small;style3roman on;style4lower own;style5upper from 099;style6decimal from 1;"), 0);
        due("all styles", styles(x), "5,1,0,0 4,1,0,0 3,1,0,1 2,1,1,0 1,99,0,0 0,1,0,0");
        due("the last one counts, whole", load(x, "style 1 upper from 5 own on;style 001 small;"), 0);
        due("what is left out is as at first, the other levels too", styles(x), "4,1,0,0 0,1,0,0 0,1,0,0 0,1,0,0 0,1,0,0 0,1,0,0");
        due("60 headings", load(x, many(60)), 60);
        x.promote(0);
        x.demote(1);
        x.save(1);
        String output = written(x);
        due("an empty text", x.load(), 0);
        due("it replaces all but the accounts, the output", all(x), "|" + FIRST_STYLES + "|1 0 0 0 1 0 0 0|0|0|0|-1|" + output);
        due("and the saved states", x.restore(1), 60);
        x.demote(2);
        String before = all(x);
        due("an error", load(x, "*a;**b;*"), NONE);
        due("nothing else changes", all(x), before.replace("|0|1|0|-1|", "|0|1|1|8|"));
        due("acts can be undone", x.undo(), 0);
        due("spaces alone", load(x, " \n  "), 0);
    }

    private static void promise4() {
        Keeper x = keeper(TREE);
        due("a script", play(x, " demote 5;move 1 4 behind;fold 0 ; sort\n0;"), 4);
        due("the row then", row(x), "1a+ 2b 3c 3d 2e 2f 3g");
        due("each command is an act", x.account(0) + " " + x.size(6), "4 4");
        due("undone one by one", x.undo() + " " + row(x), "3 1a+ 2e 2b 3c 3d 2f 3g");
        Keeper y = keeper(TREE);
        due("all commands", play(y, "move 2 0 first;promote 1;demote 1;fold 0;unfold 0;dissolve 1;remove 0;sort 0;"), 8);
        due("all commands", row(y), "1f 2g");
        due("move ahead", playedRow("move 5 0 ahead;"), "1f 2g 1a 2b 3c 3d 2e");
        due("move behind", playedRow("move 1 5 behind;"), "1a 2e 1f 2g 1b 2c 2d");
        due("move first", playedRow("move 1 5 first;"), "1a 2e 1f 2b 3c 3d 2g");
        due("move last", playedRow("move 1 5 last;"), "1a 2e 1f 2g 2b 3c 3d");
        due("done, though the act answers 0", play(keeper(TREE), "move 5 0 ahead;") + " " + play(keeper("*a;"), "dissolve 0;") + " " + play(keeper("*a;"), "sort 0;"), "1 1 0");
        due("an empty script", x.play() + " " + error(x), "0 0 at -1");
        due("it stops at a refusal", play(y, "fold 0;fold 0;remove 0;"), 1);
        due("which is counted", accounts(y) + " " + row(y), "9 0 0 0 0 0 0 1 1f+ 2g");
        due("it stops at a place without a heading", play(y, "unfold 0;fold 2;remove 0;"), 1);
        due("which is no refusal", accounts(y), "10 0 0 0 0 0 0 1");
        due("the second place too", play(y, "promote 1;move 0 59 first;remove 0;"), 1);
        due("and that is no refusal", accounts(y), "11 0 0 0 0 0 0 1");
        due("a sort without children", play(y, "sort 1;") + " " + y.account(6), "0 1");
        due("places are those of then", play(y, "remove 0;remove 0;remove 0;") + " " + y.size(0), "2 0");
        Keeper z = keeper(TREE);
        String before = all(z);
        due("an error", play(z, "remove 0;remove 0;remove") + " " + error(z), "-1 1 at 24");
        due("nothing else changes", all(z), before.replace("|0|0|0|-1|", "|0|0|1|24|"));
        due("40 commands", play(z, "fold 0;unfold 0;".repeat(20)) + " " + z.size(6), "40 8");
        due("an undo only of the latest acts", z.undo() + " " + z.heading(0, 7), "7 1");
    }

    private static String playedRow(String script) {
        Keeper x = keeper(TREE);
        play(x, script);
        return row(x);
    }

    private static void outlineError(String text, String want) {
        Keeper x = new Keeper();
        due(text, load(x, text) + ": " + error(x) + ", " + x.size(5), "-1: " + want + ", 0");
    }

    private static void scriptError(String text, String want) {
        Keeper x = new Keeper();
        due(text, play(x, text) + ": " + error(x) + ", " + x.size(5), "-1: " + want + ", 0");
    }

    private static void promise5() {
        Keeper x = new Keeper();
        due("no such call", x.errorCode(), 0);
        outlineError("a;", "1 at 0");
        outlineError(" plain;", "1 at 1");
        outlineError(";", "1 at 0");
        outlineError("*;", "1 at 1");
        outlineError("*7;", "1 at 1");
        outlineError("*a", "1 at 2");
        outlineError("*a \n", "1 at 4");
        outlineError("*abcdefghi;", "1 at 1");
        outlineError("*A;", "1 at 1");
        outlineError("*aB;", "1 at 2");
        outlineError("*a\t;", "1 at 2");
        outlineError("*a\u00e4;", "1 at 2");
        outlineError("*a plain plain;", "1 at 9");
        outlineError("*a folded plain;", "1 at 10");
        outlineError("*a folde;", "1 at 3");
        outlineError("*a foldedfolded;", "1 at 3");
        outlineError("*a * ;", "1 at 3");
        outlineError("*a;;", "1 at 3");
        outlineError("styl 1 upper;", "1 at 0");
        outlineError("style upper;", "1 at 6");
        outlineError("style*1 upper;", "1 at 5");
        outlineError("style 1 2;", "1 at 8");
        outlineError("style 1 big;", "1 at 8");
        outlineError("style 1 upper from own;", "1 at 19");
        outlineError("style 1 upper from", "1 at 18");
        outlineError("style 1 upper on own;", "1 at 17");
        outlineError("style 1 upper own from 2;", "1 at 18");
        outlineError("style 1 upper from 2 from 3;", "1 at 21");
        outlineError("style 1 upper plain;", "1 at 14");
        outlineError("style 0 upper;", "2 at 6");
        outlineError("style 7 upper;", "2 at 6");
        outlineError("style 4294967297 upper;", "2 at 6");
        outlineError("style 18446744073709551617 upper;", "2 at 6");
        outlineError("style 1 upper from 0;", "2 at 19");
        outlineError("style 1 upper from 100;", "2 at 19");
        outlineError("style 1 upper from 00000000000000000000", "2 at 19");
        outlineError("**a;", "3 at 1");
        outlineError("*a;***b;", "3 at 5");
        outlineError("*a;**b;*c;***", "3 at 12");
        outlineError(CHAIN + "*******", "2 at 39");
        outlineError("*a;**b;***c;****d;*****e;*******", "2 at 31");
        outlineError("*a;**b;***c;****d;*******", "3 at 23");
        outlineError(many(60) + "*", "4 at 180");
        outlineError(many(60) + " **;", "4 at 181");
        outlineError(many(60) + "a", "1 at 180");
        due("styles behind 60 headings", load(x, many(60) + "style 1 upper;"), 60);
        scriptErrors();
    }

    private static void scriptErrors() {
        scriptError("walk 0;", "1 at 0");
        scriptError("foldfold 0;", "1 at 0");
        scriptError("0;", "1 at 0");
        scriptError("*", "1 at 0");
        scriptError("fold", "1 at 4");
        scriptError("fold;", "1 at 4");
        scriptError("fold a;", "1 at 5");
        scriptError("fold 0", "1 at 6");
        scriptError("fold 0 1;", "1 at 7");
        scriptError("fold 0 ahead;", "1 at 7");
        scriptError("move 0;", "1 at 6");
        scriptError("move 0 ahead;", "1 at 7");
        scriptError("move 0 1;", "1 at 8");
        scriptError("move 0 1 up;", "1 at 9");
        scriptError("move 0 1 first last;", "1 at 15");
        scriptError("move 0 1 first", "1 at 14");
        scriptError("fold 60;", "2 at 5");
        scriptError("fold 99999999999999999999", "2 at 5");
        scriptError("move 60 61 up", "2 at 5");
        scriptError("move 0 60 up", "2 at 7");
        scriptError("fold 0-", "1 at 6");
        scriptError("fold0;".repeat(40) + "fold", "4 at 240");
        scriptError("fold0;".repeat(40) + " sort 99", "4 at 241");
        scriptError("fold0;".repeat(40) + "walk", "1 at 240");
        scriptError("fold0;".repeat(40) + ";", "1 at 240");
        Keeper x = new Keeper();
        due("a place without a heading is no error", play(x, "fold 0059;") + " " + error(x), "0 0 at -1");
        play(x, "walk");
        due("an error stays", x.errorCode(), 1);
        x.save(0);
        x.restore(0);
        x.foldTo(1);
        x.undo();
        find(x, "a", false);
        due("until the next such call", error(x), "1 at 0");
        x.load();
        due("which has none", error(x), "0 at -1");
    }

    private static void promise6() {
        Keeper x = new Keeper();
        due("no such call", x.errorPosition(), NONE);
        load(x, "*a; *");
        due("an early end", x.errorPosition(), 5);
        play(x, "  walk");
        due("of the latest call", x.errorPosition(), 2);
        play(x, "fold 0;");
        due("no error", x.errorPosition(), NONE);
        load(x, " ".repeat(699) + ".");
        due("the last byte", x.errorPosition(), 699);
        load(x, "*a" + " ".repeat(698));
        due("behind the last byte", x.errorPosition(), 700);
    }

    private static void promise7() {
        Keeper x = keeper("style 2 upper;" + TREE + "*a;**b;");
        due("a name", find(x, "b", false), 1);
        due("the buffer is empty", x.size(5), 0);
        due("the first of several", find(x, "a", false), 0);
        due("not a part of it", find(x, "bb", false), NONE);
        due("not with a space", find(x, "b ", false), NONE);
        due("no such name, but the buffer is emptied", find(x, "z", false) + " " + x.size(5), "-1 0");
        due("an empty buffer", x.find(false), NONE);
        due("a number", find(x, "1.A.2", true), 3);
        due("a number of level 1", find(x, "3", true), 7);
        due("no name as a number", find(x, "b", true), NONE);
        due("no number as a name", find(x, "3", false), NONE);
        due("no part of a number", find(x, "1.A.", true), NONE);
        x.setPlain(0, true);
        due("an empty buffer is no empty number", x.find(true), NONE);
        due("numbers of now", find(x, "A", true) + " " + find(x, "1", true), "1 5");
        due("a name of 8 letters", find(keeper("*abcdefg;*abcdefgh;"), "abcdefgh", false), 1);
        due("a name of 9 letters", find(keeper("*abcdefgh;"), "abcdefghi", false), NONE);
        Keeper y = keeper("style1upper;style2roman own;style3upper own;*x;**x;***x;");
        due("the first of like numbers", find(y, "I", true), 1);
    }

    // ---- what there is

    private static void promise8() {
        Keeper x = keeper("*a;**b plain folded;***c;***d;**e;*f folded;**g plain;style 3 none;");
        due("headings", x.size(0), 7);
        due("visible ones", x.size(1), 4);
        due("numbered ones", x.size(2), 3);
        due("the greatest level", x.size(3), 3);
        due("those without a parent", x.size(4), 2);
        text(x, "abc");
        due("the buffer", x.size(5), 3);
        x.foldTo(6);
        x.foldTo(6);
        due("acts to undo", x.size(6), 2);
        x.undo();
        x.undo();
        due("folded ones", x.size(7), 2);
        due("like numbers, empty ones not", x.size(8), 0);
        due("the first one folded", keeper("*a folded;*b;").size(7), 1);
        x.setStyle(3, 0, 1);
        x.setMode(2, true, false);
        due("like numbers: e and a, each of the two counts", numbers(x) + " " + x.size(8), "1 - 1 2 1 2 - 5");
        due("I of two styles", keeper("style 1 upper from 9;style 2 roman own;*a;**b;*c;").size(8), 2);
        due("a and A differ", keeper("style 1 upper;style 2 lower own;*a;**b;").size(8), 0);
        fails("what -1", x, NO_ARGUMENT, () -> x.size(-1));
        fails("what 9", x, NO_ARGUMENT, () -> x.size(9));
    }

    private static void promise9() {
        Keeper x = keeper("style 2 roman from 8;*a;**b folded;***c plain;****dd;***d;**e;*f;**g;");
        String[] due = {
            "1 -1 2 6 4 0 0 0 1 1 1 1", "2 0 2 4 4 0 0 1 1 8 6 1", "3 1 1 2 4 0 1 0 0 -1 0 1", "4 2 0 1 4 0 0 0 0 1 1 2",
            "3 1 0 1 3 1 0 0 0 1 8 1", "2 0 0 1 2 1 0 0 1 9 4 1", "1 -1 1 2 2 1 0 0 1 2 1 1", "2 6 0 1 2 0 0 0 1 8 6 1"};
        for (int place = 0; place < due.length; place++) {
            StringBuilder got = new StringBuilder();
            for (int what = 0; what <= 11; what++) {
                got.append(what == 0 ? "" : " ").append(x.heading(place, what));
            }
            due("heading " + place, got.toString(), due[place]);
        }
        due("plain siblings ahead count", keeper("*a plain;*b plain;*c;").heading(2, 5), 2);
        due("plain siblings have no COUNT", keeper("*a plain;*b plain;*c;").heading(2, 9), 1);
        fails("what -1", x, NO_ARGUMENT, () -> x.heading(0, -1));
        fails("what 12", x, NO_ARGUMENT, () -> x.heading(7, 12));
        fails("place ahead of what", x, NO_INDEX, () -> x.heading(8, 12));
        fails("place -1", x, NO_INDEX, () -> x.heading(-1, 0));
        counts();
    }

    private static void counts() {
        due("siblings alone", numbers(keeper("*a;**b;**c;*d;**e;")), "1 1.1 1.2 2 2.1");
        due("on: all of the level", numbers(keeper("style 2 decimal from 5 on;*a;**b;**c plain;**d;*e;**f;***g;")), "1 1.5 - 1.6 2 2.7 2.7.1");
        due("own", numbers(keeper("style 2 upper own;*a;**b;***c;*d;**e;")), "1 A A.1 2 A");
        due("below a plain one", numbers(keeper("*a plain;**b;***c;*d;")), "- 1 1.1 1");
        due("below none", numbers(keeper("style 2 none;*a;**b;***c;***d;**e;***f;")), "1 - 1 2 - 1");
        Keeper x = keeper("style 1 upper from 25;" + many(30));
        due("letters", numbers(x).substring(0, 14), "Y Z AA AB AC A");
        x.setStyle(1, 2, 51);
        due("small letters", numbers(x).substring(0, 14), "ay az ba bb bc");
        x.setStyle(1, 3, 38);
        due("Roman", numbers(x).substring(0, 30), "XXXVIII XXXIX XL XLI XLII XLII");
        x.setStyle(1, 4, 88);
        due("small Roman", numbers(x).substring(0, 26), "lxxxviii lxxxix xc xci xci");
        Keeper y = keeper("style 1 decimal from 99;" + many(60));
        due("the greatest COUNT", y.heading(59, 9) + " " + number(y, 59), "158 158");
        y.setStyle(1, 3, 99);
        due("Roman above 99", number(y, 0) + " " + number(y, 1) + " " + number(y, 39) + " " + number(y, 50) + " " + number(y, 59), "XCIX C CXXXVIII CXLIX CLVIII");
        y.setStyle(1, 4, 99);
        due("small Roman above 99", number(y, 1) + " " + number(y, 39), "c cxxxviii");
        y.setStyle(1, 1, 99);
        due("letters above 99", number(y, 0) + " " + number(y, 6) + " " + number(y, 59), "CU DA FB");
        Keeper z = keeper("*a;**b;***c;****d;*****e;******f;" + "style1small from 88;style2small from 88;style3small from 88;style4small from 88;style5small from 88;style6small from 88;");
        due("the longest of such", z.heading(5, 10) + " " + number(z, 5), "53 " + "lxxxviii.".repeat(5) + "lxxxviii");
    }

    private static void promise10() {
        Keeper x = keeper("*abcdefgh;*z;");
        due("first", x.letter(0, 0), (int) 'a');
        due("last", x.letter(0, 7), (int) 'h');
        due("behind", x.letter(0, 8) + " " + x.letter(1, 1), "-1 -1");
        due("far", x.letter(1, -1) + " " + x.letter(1, Integer.MAX_VALUE) + " " + x.letter(1, Integer.MIN_VALUE), "-1 -1 -1");
        due("z", x.letter(1, 0), (int) 'z');
        fails("no heading", x, NO_INDEX, () -> x.letter(2, 0));
        fails("NONE", x, NO_INDEX, () -> x.letter(-1, 0));
    }

    private static void promise11() {
        Keeper x = keeper("*a;**b;*c plain;");
        due("the bytes", x.number(1, 0) + " " + x.number(1, 1) + " " + x.number(1, 2), "49 46 49");
        due("behind", x.number(1, 3) + " " + x.number(2, 0), "-1 -1");
        due("far", x.number(1, -1) + " " + x.number(1, Integer.MAX_VALUE) + " " + x.number(1, Integer.MIN_VALUE), "-1 -1 -1");
        fails("no heading", x, NO_INDEX, () -> x.number(3, 0));
        fails("NONE", x, NO_INDEX, () -> x.number(-1, 0));
    }

    private static void promise12() {
        Keeper x = keeper("style 6 none from 42 own;style 1 roman on;");
        due("styles", styles(x), "3,1,0,1 0,1,0,0 0,1,0,0 0,1,0,0 0,1,0,0 5,42,1,0");
        fails("what -1", x, NO_ARGUMENT, () -> x.style(1, -1));
        fails("what 4", x, NO_ARGUMENT, () -> x.style(6, 4));
        for (int level : WRONG_LEVELS) {
            fails("level ahead of what", x, NO_INDEX, () -> x.style(level, 4));
        }
    }

    private static void promise13() {
        Keeper x = keeper(TREE);
        due("children", x.child(0, 0) + " " + x.child(0, 1) + " " + x.child(1, 1), "1 4 3");
        due("without a parent", x.child(NONE, 0) + " " + x.child(NONE, 1), "0 5");
        fails("no third child", x, NO_ELEMENT, () -> x.child(0, 2));
        fails("child -1", x, NO_ELEMENT, () -> x.child(0, -1));
        fails("no child", x, NO_ELEMENT, () -> x.child(6, 0));
        fails("no third top", x, NO_ELEMENT, () -> x.child(NONE, 2));
        fails("no heading", x, NO_INDEX, () -> x.child(7, 0));
        for (int place : WRONG_PLACES) {
            fails("no heading ahead of no child", x, NO_INDEX, () -> x.child(place, 99));
        }
        Keeper y = new Keeper();
        fails("no headings", y, NO_ELEMENT, () -> y.child(NONE, 0));
    }

    private static void promise14() {
        Keeper x = keeper(TREE);
        due("the parent of both", x.common(2, 3), 1);
        due("an ancestor of both", x.common(2, 4) + " " + x.common(4, 2), "0 0");
        due("one in the branch of the other", x.common(1, 3) + " " + x.common(3, 0), "1 0");
        due("itself", x.common(3, 3), 3);
        due("none", x.common(0, 5) + " " + x.common(6, 2), "-1 -1");
        due("deep ones", keeper(CHAIN + CHAIN).common(5, 11) + " " + keeper(CHAIN + "******g;").common(5, 6), "-1 4");
        fails("no first", x, NO_INDEX, () -> x.common(7, 0));
        fails("no second", x, NO_INDEX, () -> x.common(0, -1));
    }

    private static void promise15() {
        Keeper x = keeper("*a;**b folded;***c folded;****h;***d;**e;*f folded;**g;");
        due("visible ones", x.visible(0) + " " + x.visible(1) + " " + x.visible(2) + " " + x.visible(3), "0 1 5 6");
        due("no more", x.visible(4) + " " + x.visible(-1) + " " + x.visible(Integer.MAX_VALUE), "-1 -1 -1");
        due("none", new Keeper().visible(0), NONE);
        x.fold(1, false);
        due("one folded below", x.visible(2) + " " + x.visible(3), "2 4");
    }

    private static void promise16() {
        due("without headings", new Keeper().largest(), NONE);
        due("the largest", keeper("*a;**b;*c;**d;**e;*f;").largest(), 2);
        due("the first one of several", keeper("*x;*a;**b;*c;**d;*f;").largest(), 1);
        due("all headings of the branch", keeper("*a;**b;**c;*d;**e;***f;****g;").largest(), 3);
        due("one", keeper("*a;").largest(), 0);
    }

    private static void promise17() {
        Keeper x = keeper(CHAIN);
        due("at first", accounts(x), "0 0 0 0 0 0 0 0");
        insert(x, "x", 5, 2);
        x.move(0, 1, 0);
        x.promote(0);
        x.demote(0);
        x.fold(5, true);
        x.fold(5, false);
        x.setPlain(5, false);
        x.move(5, 0, 3);
        x.undo();
        due("each reason", accounts(x), "1 1 1 0 1 1 1 2");
        load(x, many(60));
        insert(x, "x", 5, 2);
        x.save(0);
        x.restore(0);
        due("kept", accounts(x), "1 1 1 1 1 1 1 2");
        x.whyNot(0, 0, 0);
        x.changedBy(0, 0, 0);
        due("a question is no act", accounts(x), "1 1 1 1 1 1 1 2");
        fails("what -1", x, NO_ARGUMENT, () -> x.account(-1));
        fails("what 8", x, NO_ARGUMENT, () -> x.account(8));
    }

    private static void promise18() {
        due("without headings", new Keeper().share(), 0.0f);
        Keeper x = keeper("*a folded;**b;*c;");
        due("a share", x.share(), 2.0f / 3.0f);
        x.fold(0, false);
        due("all", x.share(), 1.0f);
    }

    private static void promise19() {
        due("without headings", new Keeper().meanLevel(), 0.0);
        due("a mean", keeper(TREE).meanLevel(), 14.0 / 7.0);
        due("not a whole one", keeper("*a;**b;**c;").meanLevel(), 5.0 / 3.0);
    }

    // ---- what would be

    private static void promise20() {
        Keeper x = keeper(CHAIN + "*g;");
        String before = all(x);
        due("it would be done", x.whyNot(5, 6, 0) + " " + x.whyNot(6, 0, 3) + " " + x.whyNot(6, 5, 1), "0 0 0");
        due("to where it is", x.whyNot(6, 0, 1) + " " + x.whyNot(1, 0, 2), "0 0");
        due("a level above 6", x.whyNot(6, 5, 2) + " " + x.whyNot(6, 5, 3), "1 1");
        due("a level below it above 6", x.whyNot(0, 6, 2) + " " + x.whyNot(0, 6, 3) + " " + x.whyNot(0, 6, 1), "1 1 0");
        due("itself", x.whyNot(3, 3, 0), 2);
        due("in the branch", x.whyNot(1, 5, 0), 2);
        due("both: the first reason", x.whyNot(0, 5, 2), 2);
        due("nothing changes", all(x), before);
        fails("way -1", x, NO_ARGUMENT, () -> x.whyNot(0, 0, -1));
        fails("way 4", x, NO_ARGUMENT, () -> x.whyNot(0, 0, 4));
        fails("place ahead of way", x, NO_INDEX, () -> x.whyNot(7, 0, 4));
        fails("target ahead of way", x, NO_INDEX, () -> x.whyNot(0, -1, 4));
    }

    private static void promise21() {
        Keeper x = keeper("*a;*b;*c;*d;");
        String before = all(x);
        due("where it is", x.changedBy(1, 0, 1) + " " + x.changedBy(1, 2, 0), "0 0");
        due("one place on", x.changedBy(0, 1, 1), 2);
        due("all", x.changedBy(0, 3, 1), 4);
        due("below another", x.changedBy(1, 0, 2), 3);
        due("refused", x.changedBy(1, 1, 0), NONE);
        due("nothing changes", all(x), before);
        due("wherever they stand, with their branches", keeper(TREE).changedBy(0, 5, 1), 7);
        due("empty ones stay empty", keeper("*a plain;*b;**c plain;").changedBy(0, 1, 1), 0);
        due("one becomes empty", keeper("style 2 none;*a;*b;").changedBy(1, 0, 2), 1);
        due("like texts of two styles", keeper("style 2 roman own;style 1 upper from 8;*a;*b;").changedBy(1, 0, 2), 0);
        due("deep ones that stay", keeper(CHAIN + "*g;").changedBy(6, 0, 1), 0);
        Keeper y = keeper("*a;*b;");
        y.setStyle(1, 5, 1);
        due("styles of now", y.changedBy(0, 1, 1), 0);
        y.setStyle(1, 2, 7);
        y.setStyle(2, 3, 1);
        y.setMode(2, true, false);
        y.setStyle(1, 1, 9);
        due("like texts by styles of now", y.changedBy(0, 1, 2) + " " + number(y, 0), "1 I");
        due("refused by its level", keeper(CHAIN + "*g;").changedBy(6, 5, 2), NONE);
        due("on", keeper("style 2 decimal on;*a;**b;*c;**d;**e;").changedBy(0, 2, 1), 5);
        fails("way 4", x, NO_ARGUMENT, () -> x.changedBy(0, 0, 4));
        fails("way -1", x, NO_ARGUMENT, () -> x.changedBy(0, 0, -1));
        fails("place ahead of way", x, NO_INDEX, () -> x.changedBy(-1, 0, 4));
        fails("target ahead of way", x, NO_INDEX, () -> x.changedBy(0, 4, 4));
    }

    private static void promise22() {
        Keeper x = keeper("*a;*b;*c;*d;");
        String before = all(x);
        due("where it is", x.cheapest(1, 1), 1);
        due("the first one where it is", x.cheapest(0, 1), 10);
        due("at the end", x.cheapest(3, 1), 21);
        due("into the one ahead", x.cheapest(3, 2), 2);
        due("the fewest of several", x.cheapest(0, 2), 12);
        due("no such level", x.cheapest(0, 3), NONE);
        due("nothing changes", all(x), before);
        Keeper y = keeper(CHAIN + "*g;");
        due("too deep", y.cheapest(0, 2), NONE);
        due("refused ones do not count", y.cheapest(5, 6) + " " + y.cheapest(4, 6), "42 -1");
        due("one heading alone", keeper("*a;").cheapest(0, 1), NONE);
        due("all 60 change", keeper(many(60)).cheapest(0, 2), 12);
        due("a level between", y.cheapest(6, 4), 23);
        fails("no heading", x, NO_INDEX, () -> x.cheapest(4, 1));
        fails("no heading", x, NO_INDEX, () -> x.cheapest(-1, 1));
        for (int level : WRONG_LEVELS) {
            fails("no level", x, NO_INDEX, () -> x.cheapest(0, level));
        }
    }

    private static void promise23() {
        Keeper x = keeper("*a;**b folded;***c;****d;**e;*f;");
        String before = all(x);
        due("what it would hide", x.wouldHide(0), 2);
        due("folded already", x.wouldHide(1), 0);
        due("hidden already", x.wouldHide(2), 0);
        due("without children", x.wouldHide(5), 0);
        due("nothing changes", all(x), before);
        x.fold(1, false);
        due("the whole branch", x.wouldHide(0) + " " + x.wouldHide(1) + " " + x.wouldHide(2), "4 2 1");
        fails("no heading", x, NO_INDEX, () -> x.wouldHide(6));
        fails("NONE", x, NO_INDEX, () -> x.wouldHide(-1));
    }

    // ---- acts

    private static void promise24() {
        due("ahead", insertedRow(1, 0), "1: 1a 2x 2b 3c 3d 2e 1f 2g");
        due("behind", insertedRow(1, 1), "4: 1a 2b 3c 3d 2x 2e 1f 2g");
        due("first", insertedRow(1, 2), "2: 1a 2b 3x 3c 3d 2e 1f 2g");
        due("last", insertedRow(1, 3), "4: 1a 2b 3c 3d 3x 2e 1f 2g");
        for (int way = 0; way <= 3; way++) {
            due("at the end", insertedRow(NONE, way), "7: 1a 2b 3c 3d 2e 1f 2g 1x");
        }
        due("behind the last branch", insertedRow(5, 1), "7: 1a 2b 3c 3d 2e 1f 2g 1x");
        due("ahead of all", insertedRow(0, 0), "0: 1x 1a 2b 3c 3d 2e 1f 2g");
        Keeper x = new Keeper();
        text(x, "abcdefghi");
        due("the first bytes", x.insert(NONE, 3, 8) + " " + row(x) + " " + x.size(5), "0 1abcdefgh 0");
        text(x, "az;*7");
        due("the others do not matter", x.insert(0, 3, 2) + " " + row(x) + " " + x.size(5), "1 1abcdefgh 2az 0");
        due("undone", x.undo() + " " + row(x), "1 1abcdefgh");
        due("neither plain nor folded", insert(keeper("*a plain folded;**b plain folded;"), "x", 1, 0), 1);
        Keeper plain = keeper("*a plain folded;**b plain folded;");
        insert(plain, "x", 1, 0);
        due("neither plain nor folded", row(plain), "1a!+ 2x 2b!+");
        refusedInserts();
        wrongInserts();
    }

    private static void refusedInserts() {
        Keeper x = keeper(CHAIN);
        text(x, "xyz");
        due("a level above 6", x.insert(5, 2, 1) + " " + x.size(5) + " " + accounts(x) + " " + x.size(6), "-1 0 0 1 0 0 0 0 0 0 0");
        due("by the other way too", insert(x, "x", 5, 3), -1);
        due("the level 6", insert(x, "x", 5, 1) + " " + insert(x, "y", 5, 0), "6 5");
        Keeper y = keeper(CHAIN + many(54));
        text(y, "xyz");
        due("60 headings", y.insert(0, 0, 1) + " " + y.size(5) + " " + accounts(y) + " " + y.size(6), "-3 0 0 0 0 1 0 0 0 0 0");
        due("60 headings, at the end", insert(y, "x", NONE, 0), -3);
        due("both: the first reason", insert(y, "x", 5, 2), -3);
        y.remove(59);
        due("59 headings", insert(y, "x", NONE, 0) + " " + y.size(0), "59 60");
    }

    private static void wrongInserts() {
        Keeper x = keeper(TREE);
        text(x, "abCdefghi");
        fails("way -1", x, NO_ARGUMENT, () -> x.insert(0, -1, 1));
        fails("way 4", x, NO_ARGUMENT, () -> x.insert(0, 4, 1));
        fails("way 4 with NONE", x, NO_ARGUMENT, () -> x.insert(NONE, 4, 1));
        fails("0 bytes", x, NO_ARGUMENT, () -> x.insert(0, 0, 0));
        fails("9 bytes", x, NO_ARGUMENT, () -> x.insert(0, 0, 9));
        fails("very many bytes", x, NO_ARGUMENT, () -> x.insert(0, 0, Integer.MAX_VALUE));
        fails("no letter", x, NO_ARGUMENT, () -> x.insert(0, 0, 3));
        fails("no heading", x, NO_INDEX, () -> x.insert(7, 0, 1));
        for (int place : WRONG_PLACES) {
            fails("no heading ahead of no way and bytes", x, NO_INDEX, () -> x.insert(place, 4, 9));
        }
        due("2 letters", x.insert(0, 0, 2), 0);
        text(x, "ab");
        fails("too few bytes", x, NO_ARGUMENT, () -> x.insert(0, 0, 3));
        due("all of them", x.insert(0, 0, 2), 0);
        fails("an empty buffer", x, NO_ARGUMENT, () -> x.insert(0, 0, 1));
        for (String sign : new String[] {"`", "{", "\u00e1", "1", " "}) {
            text(x, sign);
            fails("no letter", x, NO_ARGUMENT, () -> x.insert(NONE, 0, 1));
            x.find(false);
        }
        Keeper full = keeper(many(60));
        fails("an exception ahead of a reason", full, NO_ARGUMENT, () -> full.insert(0, 0, 1));
    }

    private static String insertedRow(int target, int way) {
        Keeper x = keeper(TREE);
        return insert(x, "x", target, way) + ": " + row(x);
    }

    private static void promise25() {
        Keeper x = keeper(TREE);
        due("a branch", x.remove(1) + " " + row(x), "3 1a 2e 1f 2g");
        due("a heading", x.remove(1) + " " + row(x), "1 1a 1f 2g");
        due("the last branch", x.remove(1) + " " + row(x), "2 1a");
        due("all", x.remove(0) + " " + row(x), "1 ");
        fails("no heading", x, NO_INDEX, () -> x.remove(0));
        due("undone", x.undo() + x.undo() + x.undo() + x.undo() + " " + row(x), "6 1a 2b 3c 3d 2e 1f 2g");
        due("acts", accounts(x), "4 0 0 0 0 0 0 0");
        for (int place : WRONG_PLACES) {
            fails("no heading", x, NO_INDEX, () -> x.remove(place));
        }
    }

    private static void promise26() {
        Keeper x = keeper("*a;**b plain folded;***c folded;****d;***e;**f;");
        due("a branch", x.dissolve(1) + " " + row(x), "5 1a 2c+ 3d 2e 2f");
        due("the first heading", x.dissolve(0) + " " + row(x), "4 1c+ 2d 1e 1f");
        due("without children", x.dissolve(3) + " " + row(x), "3 1c+ 2d 1e");
        due("what was folded stays so", x.dissolve(1) + " " + row(x), "2 1c+ 1e");
        due("undone", x.undo() + " " + row(x), "3 1c+ 2d 1e");
        due("all", x.dissolve(0) + x.dissolve(0) + x.dissolve(0) + " " + row(x), "3 ");
        fails("no heading", x, NO_INDEX, () -> x.dissolve(0));
        fails("NONE", x, NO_INDEX, () -> x.dissolve(NONE));
    }

    private static String movedRow(int place, int target, int way) {
        Keeper x = keeper(TREE);
        return x.move(place, target, way) + ": " + row(x);
    }

    private static void promise27() {
        due("up, ahead", movedRow(5, 1, 0), "1: 1a 2f 3g 2b 3c 3d 2e");
        due("up, behind", movedRow(6, 1, 1), "4: 1a 2b 3c 3d 2g 2e 1f");
        due("up, first", movedRow(4, 1, 2), "2: 1a 2b 3e 3c 3d 1f 2g");
        due("up, last", movedRow(5, 0, 3), "5: 1a 2b 3c 3d 2e 2f 3g");
        due("down, ahead", movedRow(1, 6, 0), "3: 1a 2e 1f 2b 3c 3d 2g");
        due("down, behind", movedRow(0, 5, 1), "2: 1f 2g 1a 2b 3c 3d 2e");
        due("down, first", movedRow(0, 5, 2), "1: 1f 2a 3b 4c 4d 3e 2g");
        due("down, last", movedRow(1, 4, 3), "2: 1a 2e 3b 4c 4d 1f 2g");
        due("out of the branch of its target", movedRow(2, 0, 1), "4: 1a 2b 3d 2e 1c 1f 2g");
        due("to the end of it", movedRow(1, 0, 3), "2: 1a 2e 2b 3c 3d 1f 2g");
        due("directly behind it", movedRow(4, 0, 1), "4: 1a 2b 3c 3d 1e 1f 2g");
        due("where it is", movedRow(1, 0, 2) + "; " + movedRow(1, 4, 0) + "; " + movedRow(4, 1, 1), "1: 1a 2b 3c 3d 2e 1f 2g; 1: 1a 2b 3c 3d 2e 1f 2g; 4: 1a 2b 3c 3d 2e 1f 2g");
        Keeper x = keeper("*a;**b plain folded;***c folded;*d;");
        due("with all that it has", x.move(1, 3, 2) + " " + row(x), "2 1a 1d 2b!+ 3c+");
        due("an act", accounts(x) + " " + x.undo() + " " + row(x), "1 0 0 0 0 0 0 0 0 1a 2b!+ 3c+ 1d");
        Keeper y = keeper(CHAIN + "*g;");
        String before = row(y);
        due("reasons", y.move(0, 0, 0) + " " + y.move(1, 5, 1) + " " + y.move(6, 5, 2) + " " + y.move(0, 6, 3), "-2 -2 -1 -1");
        due("both: the first reason", y.move(0, 5, 3), -2);
        due("a refused act changes but the accounts", row(y) + " " + y.size(6) + " " + accounts(y), before + " 0 0 2 3 0 0 0 0 0");
        due("to where it is, an act", y.move(6, 0, 1) + " " + y.size(6) + " " + y.account(0), "6 1 1");
        fails("way -1", y, NO_ARGUMENT, () -> y.move(0, 0, -1));
        fails("way 4", y, NO_ARGUMENT, () -> y.move(0, 0, 4));
        fails("place ahead of way", y, NO_INDEX, () -> y.move(7, 0, 4));
        fails("target ahead of way", y, NO_INDEX, () -> y.move(0, -1, 4));
        for (int place : WRONG_PLACES) {
            fails("no heading", y, NO_INDEX, () -> y.move(0, place, 0));
        }
    }

    private static void promise28() {
        Keeper x = keeper(TREE);
        due("a branch", x.promote(1) + " " + row(x), "1 1a 1b 2c 2d 2e 1f 2g");
        due("what follows becomes its child", x.heading(1, 2) + " " + x.child(1, 2), "3 4");
        due("an act", accounts(x) + " " + x.undo() + " " + row(x), "1 0 0 0 0 0 0 0 0 1a 2b 3c 3d 2e 1f 2g");
        due("the last", x.promote(6) + " " + x.heading(6, 0), "1 1");
        due("from level 3", x.promote(2) + " " + row(x), "2 1a 2b 2c 3d 2e 1f 1g");
        due("the level is 1", x.promote(0) + " " + accounts(x) + " " + x.size(6), "-4 3 0 0 0 1 0 0 0 2");
        fails("no heading", x, NO_INDEX, () -> x.promote(7));
        fails("NONE", x, NO_INDEX, () -> x.promote(NONE));
    }

    private static void promise29() {
        Keeper x = keeper(TREE);
        due("a branch", x.demote(5) + " " + row(x), "2 1a 2b 3c 3d 2e 2f 3g");
        due("the last child of the sibling ahead", x.heading(5, 1) + " " + x.child(0, 2), "0 5");
        due("an act", accounts(x) + " " + x.undo() + " " + row(x), "1 0 0 0 0 0 0 0 0 1a 2b 3c 3d 2e 1f 2g");
        due("no sibling", x.demote(0) + " " + x.demote(1) + " " + x.demote(6) + " " + x.demote(2), "-5 -5 -5 -5");
        due("a plain sibling", keeper("*a plain;*b;").demote(1), 2);
        Keeper y = keeper("*x;" + CHAIN + "******g;");
        due("a level above 6", y.demote(7) + " " + y.demote(1), "-1 -1");
        due("both: the first reason", y.demote(6), -5);
        due("refused", row(y) + " " + accounts(y) + " " + y.size(6), "1x 1a 2b 3c 4d 5e 6f 6g 0 2 0 0 0 1 0 0 0");
        due("up to 6", keeper("*a;**b;***c;****d;*****e;*****f;").demote(5), 6);
        fails("no heading", x, NO_INDEX, () -> x.demote(7));
        fails("NONE", x, NO_INDEX, () -> x.demote(NONE));
    }

    private static void promise30() {
        Keeper x = keeper(TREE);
        due("fold", x.fold(1, true) + " " + row(x), "5 1a 2b+ 3c 3d 2e 1f 2g");
        due("fold all", x.fold(0, true) + " " + x.fold(5, true), "3 2");
        due("unfold", x.fold(0, false) + " " + row(x), "4 1a 2b+ 3c 3d 2e 1f+ 2g");
        due("acts", accounts(x) + " " + x.undo() + " " + row(x), "4 0 0 0 0 0 0 0 3 1a+ 2b+ 3c 3d 2e 1f+ 2g");
        due("already", x.fold(0, true) + " " + x.fold(2, false), "-7 -7");
        due("no children", x.fold(2, true) + " " + x.fold(6, true), "-6 -6");
        due("refused", accounts(x) + " " + x.size(6), "4 0 0 0 0 0 2 2 3");
        x.remove(6);
        due("folded without children: the first reason", x.fold(5, true), -7);
        due("unfolded without children", x.fold(5, false) + " " + x.heading(5, 7), "2 0");
        due("what is hidden can be folded", keeper("*a folded;**b;***c;").fold(1, true), 1);
        fails("no heading", x, NO_INDEX, () -> x.fold(6, true));
        fails("NONE", x, NO_INDEX, () -> x.fold(NONE, false));
    }

    private static void promise31() {
        Keeper x = keeper("*a folded;**b;***c;***d folded;**e;*f;**g folded;");
        due("level 2", x.foldTo(2) + " " + row(x), "5 1a 2b+ 3c 3d 2e 1f 2g");
        due("level 1", x.foldTo(1) + " " + row(x), "2 1a+ 2b+ 3c 3d 2e 1f+ 2g");
        due("level 6", x.foldTo(6) + " " + row(x), "7 1a 2b 3c 3d 2e 1f 2g");
        due("nothing different, but an act", x.foldTo(6) + " " + accounts(x) + " " + x.size(6), "7 4 0 0 0 0 0 0 0 4");
        x.undo();
        x.undo();
        due("undone", row(x), "1a+ 2b+ 3c 3d 2e 1f+ 2g");
        Keeper y = new Keeper();
        due("without headings", y.foldTo(1) + " " + y.account(0), "0 1");
        for (int level : WRONG_LEVELS) {
            fails("no level", x, NO_INDEX, () -> x.foldTo(level));
        }
    }

    private static String sortedRow(String outline, int place, int by) {
        Keeper x = keeper(outline);
        return x.sort(place, by) + ": " + row(x);
    }

    private static void promise32() {
        due("by names", sortedRow("*z;**c;***y;**ab;**a;***x;*b;", 0, 0), "2: 1z 2a 3x 2ab 2c 3y 1b");
        due("a shorter name first", sortedRow("*abc;*ab;*abcdefgh;*abcdefg;*a;*b;", NONE, 0), "3: 1a 1ab 1abc 1abcdefg 1abcdefgh 1b");
        due("like names stay in their order", sortedRow("*b plain;*a;**x;*b;*a;**y;", NONE, 0), "4: 1a 2x 1a 2y 1b! 1b");
        due("by branches", sortedRow("*a;*b;**x;*c;**y;***z;*d;**w;", NONE, 1), "3: 1c 2y 3z 1b 2x 1d 2w 1a");
        due("turned round", sortedRow("*a;**x;*b;*c;**y;", NONE, 2), "2: 1c 2y 1b 1a 2x");
        due("even ones turned round", sortedRow("*a;*b;*c;*d;", NONE, 2), "4: 1d 1c 1b 1a");
        due("the children alone", sortedRow("*b;*z;**d;***q;***p;**c;*a;", 1, 0), "2: 1b 1z 2c 2d 3q 3p 1a");
        due("what they have goes with them", sortedRow("*b folded;**x plain;*a plain;", NONE, 0), "2: 1a! 1b+ 2x!");
        for (int by = 0; by <= 2; by++) {
            due("one child alone", sortedRow("*a;**x;*b;", 0, by), "0: 1a 2x 1b");
        }
        Keeper x = keeper("*b;**x;*a;");
        due("no children", x.sort(1, 0) + " " + x.sort(2, 2) + " " + accounts(x) + " " + x.size(6), "-6 -6 0 0 0 0 0 0 2 0 0");
        due("an act", x.sort(NONE, 0) + " " + accounts(x) + " " + x.undo() + " " + row(x), "2 1 0 0 0 0 0 2 0 0 1b 2x 1a");
        due("sorted already, but an act", x.sort(0, 0) + " " + x.size(6), "0 1");
        Keeper y = new Keeper();
        due("no headings", y.sort(NONE, 1) + " " + y.account(6), "-6 1");
        fails("by -1", x, NO_ARGUMENT, () -> x.sort(0, -1));
        fails("by 3", x, NO_ARGUMENT, () -> x.sort(NONE, 3));
        fails("an exception ahead of a reason", y, NO_ARGUMENT, () -> y.sort(NONE, 3));
        fails("no heading", x, NO_INDEX, () -> x.sort(3, 0));
        for (int place : WRONG_PLACES) {
            fails("no heading ahead of by", x, NO_INDEX, () -> x.sort(place, 3));
        }
    }

    private static void promise33() {
        Keeper x = keeper("*a;**b;*c plain;*d;");
        due("plain", x.setPlain(0, true) + " " + row(x) + " " + numbers(x), "2 1a! 2b 1c! 1d - 1 - 1");
        due("not plain", x.setPlain(2, false) + " " + row(x) + " " + numbers(x), "3 1a! 2b 1c 1d - 1 1 2");
        due("already", x.setPlain(0, true) + " " + x.setPlain(1, false) + " " + accounts(x), "-7 -7 2 0 0 0 0 0 0 2");
        due("undone", x.undo() + " " + row(x), "1 1a! 2b 1c! 1d");
        due("none stays none", keeper("style 1 none;*a plain;*b;").setPlain(0, false), 0);
        fails("no heading", x, NO_INDEX, () -> x.setPlain(4, true));
        fails("NONE", x, NO_INDEX, () -> x.setPlain(NONE, true));
    }

    private static void promise34() {
        Keeper x = keeper("style 2 roman from 5 own on;*a;**b;");
        due("the style before", x.setStyle(2, 4, 99) + " " + x.setStyle(2, 5, 1) + " " + x.setStyle(1, 0, 1), "3 4 0");
        due("styles", styles(x), "0,1,0,0 5,1,1,1 0,1,0,0 0,1,0,0 0,1,0,0 0,1,0,0");
        due("undone", x.undo() + " " + x.undo() + " " + styles(x), "2 1 0,1,0,0 4,99,1,1 0,1,0,0 0,1,0,0 0,1,0,0 0,1,0,0");
        due("acts", accounts(x), "3 0 0 0 0 0 0 0");
        due("each level", x.setStyle(6, 1, 2) + " " + styles(x), "0 0,1,0,0 4,99,1,1 0,1,0,0 0,1,0,0 0,1,0,0 1,2,0,0");
        fails("style -1", x, NO_ARGUMENT, () -> x.setStyle(1, -1, 1));
        fails("style 6", x, NO_ARGUMENT, () -> x.setStyle(1, 6, 1));
        fails("start 0", x, NO_ARGUMENT, () -> x.setStyle(1, 0, 0));
        fails("start 100", x, NO_ARGUMENT, () -> x.setStyle(1, 0, 100));
        for (int level : WRONG_LEVELS) {
            fails("level ahead of style", x, NO_INDEX, () -> x.setStyle(level, 6, 0));
        }
    }

    private static void promise35() {
        Keeper x = keeper("style 3 roman from 5 own;");
        due("the modes before", x.setMode(3, true, true) + " " + x.setMode(3, false, true) + " " + x.setMode(3, false, false) + " " + x.setMode(3, true, false), "2 3 1 0");
        due("styles", styles(x), "0,1,0,0 0,1,0,0 3,5,1,0 0,1,0,0 0,1,0,0 0,1,0,0");
        due("undone", x.undo() + " " + x.undo() + " " + styles(x), "3 2 0,1,0,0 0,1,0,0 3,5,0,1 0,1,0,0 0,1,0,0 0,1,0,0");
        due("acts", accounts(x), "4 0 0 0 0 0 0 0");
        for (int level : WRONG_LEVELS) {
            fails("no level", x, NO_INDEX, () -> x.setMode(level, true, true));
        }
    }

    // ---- output, undo, saved states

    private static void promise36() {
        Keeper x = keeper("style 1 upper;*abc;**b plain folded;***c;**d;*e folded;");
        due("the lines", written(x), "A abc\n b+\n A.1 d\nB e+\n");
        x.foldTo(1);
        due("it is replaced", written(x), "A abc+\nB e\n");
        due("an empty one", new Keeper().write(), 0);
        x.remove(0);
        x.remove(0);
        due("it is replaced by an empty one", x.write() + latestOutput(x), "0");
        Keeper y = keeper("*a;**b;***c;****d;*****e;" + "******f;".repeat(55));
        for (int level = 1; level <= 6; level++) {
            y.setStyle(level, 3, 88);
        }
        String output = written(y);
        due("a long one", output.length() > 2500 && output.endsWith("CXLII f\n") && output.startsWith("LXXXVIII a\n LXXXVIII.LXXXVIII b\n"), true);
    }

    private static void promise37() {
        Keeper x = keeper("*a plain;");
        fails("not written yet", x, NO_INDEX, () -> x.output(0));
        x.write();
        due("bytes", x.output(0) + " " + x.output(1), "97 10");
        fails("behind the last one", x, NO_INDEX, () -> x.output(2));
        fails("-1", x, NO_INDEX, () -> x.output(-1));
        fails("far", x, NO_INDEX, () -> x.output(Integer.MAX_VALUE));
        x.remove(0);
        due("it stays until it is written anew", latestOutput(x), "a\n");
        x.undo();
        x.load();
        due("it stays", latestOutput(x), "a\n");
        x.write();
        fails("replaced by a shorter one", x, NO_INDEX, () -> x.output(0));
    }

    private static void promise38() {
        Keeper x = keeper(TREE);
        fails("nothing to undo", x, NO_STATE, x::undo);
        for (int i = 1; i <= 10; i++) {
            x.setStyle(1, 0, i + 1);
            due("acts that can be undone", x.size(6), Math.min(i, 8));
        }
        x.write();
        text(x, "abc");
        x.save(0);
        for (int i = 7; i >= 0; i--) {
            due("acts that can still be undone", x.undo() + " " + x.style(1, 1), i + " " + (i + 3));
        }
        fails("no ninth", x, NO_STATE, x::undo);
        due("accounts, buffer, output stay", x.account(0) + " " + x.size(5) + " " + latestOutput(x).startsWith("11 a\n"), "10 3 true");
        due("saved states stay", x.restore(0) + " " + x.style(1, 1), "7 11");
        fails("no undo behind a restore", x, NO_STATE, x::undo);
        x.remove(0);
        x.remove(0);
        x.undo();
        x.setMode(1, true, true);
        due("behind another act", x.undo() + " " + row(x), "1 1f 2g");
        due("the one ahead", x.undo() + " " + row(x), "0 1a 2b 3c 3d 2e 1f 2g");
        x.find(false);
        text(x, "*");
        x.load();
        x.fold(0, true);
        x.undo();
        due("the error stays", error(x), "1 at 1");
    }

    private static void promise39() {
        Keeper x = keeper(TREE);
        x.fold(0, true);
        due("the headings", x.save(0) + " " + x.size(6), "7 1");
        x.remove(0);
        due("the headings then", x.save(1), 2);
        due("two states", x.restore(0) + " " + row(x) + " " + x.restore(1) + " " + row(x), "7 1a+ 2b 3c 3d 2e 1f 2g 2 1f 2g");
        x.remove(0);
        due("an empty one, replaced", x.save(0) + " " + x.restore(1) + " " + x.restore(0), "0 2 0");
        fails("slot -1", x, NO_INDEX, () -> x.save(-1));
        fails("slot 2", x, NO_INDEX, () -> x.save(2));
    }

    private static void promise40() {
        Keeper x = keeper("style 2 lower from 3 own;*a plain;**b;");
        x.save(1);
        x.write();
        text(x, "ab*");
        x.setStyle(2, 0, 1);
        x.setMode(2, false, true);
        x.setPlain(0, false);
        x.remove(1);
        due("all comes back", x.restore(1) + " " + row(x) + " " + styles(x), "2 1a! 2b 0,1,0,0 2,3,1,0 0,1,0,0 0,1,0,0 0,1,0,0 0,1,0,0");
        due("but the accounts, the buffer, the output", x.account(0) + " " + x.size(5) + " " + latestOutput(x), "4 3 a\n c b\n");
        fails("no act can be undone", x, NO_STATE, x::undo);
        x.dissolve(0);
        due("it stays saved", x.restore(1) + " " + row(x), "2 1a! 2b");
        x.load();
        due("a wrong text", error(x), "1 at 0");
        due("the error stays", x.restore(1) + " " + error(x), "2 1 at 0");
        fails("nothing is saved there", x, NO_STATE, () -> x.restore(0));
        fails("slot -1", x, NO_INDEX, () -> x.restore(-1));
        fails("slot 2", x, NO_INDEX, () -> x.restore(2));
        load(x, "*q;");
        due("kept by a load", x.restore(1), 2);
    }

    public static void main(String[] args) {
        Runnable[] tests = {
            PromiseTests::promise1, PromiseTests::promise2, PromiseTests::promise3, PromiseTests::promise4,
            PromiseTests::promise5, PromiseTests::promise6, PromiseTests::promise7, PromiseTests::promise8,
            PromiseTests::promise9, PromiseTests::promise10, PromiseTests::promise11, PromiseTests::promise12,
            PromiseTests::promise13, PromiseTests::promise14, PromiseTests::promise15, PromiseTests::promise16,
            PromiseTests::promise17, PromiseTests::promise18, PromiseTests::promise19, PromiseTests::promise20,
            PromiseTests::promise21, PromiseTests::promise22, PromiseTests::promise23, PromiseTests::promise24,
            PromiseTests::promise25, PromiseTests::promise26, PromiseTests::promise27, PromiseTests::promise28,
            PromiseTests::promise29, PromiseTests::promise30, PromiseTests::promise31, PromiseTests::promise32,
            PromiseTests::promise33, PromiseTests::promise34, PromiseTests::promise35, PromiseTests::promise36,
            PromiseTests::promise37, PromiseTests::promise38, PromiseTests::promise39, PromiseTests::promise40};
        for (int i = 0; i < tests.length; i++) {
            test("promise " + (i + 1), tests[i]);
        }
        end();
    }
}
