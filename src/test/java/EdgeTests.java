/**
 * The promises 1 to 40 of the document: a test for each sentence that names an edge, and for the
 * numbers just inside and just outside each range, the greatest and the least int among them.
 */
public final class EdgeTests extends Checks {
    private static final int[] FAR = {LEAST, LEAST + 1, GREATEST - 1, GREATEST};

    // ---- texts

    private static void promise1() {
        sentence("creates a keeper with an empty outline");
        Keeper x = new Keeper();
        for (int what = 0; what <= 8; what++) {
            due("size " + what, x.size(what), 0);
        }
        due("nothing in it", x.largest() + " " + x.visible(0) + " " + x.share() + " " + x.meanLevel(), "-1 -1 0.0 0.0");
        fails("no heading", x, NO_INDEX, () -> x.heading(0, 0));
        fails("no child", x, NO_ELEMENT, () -> x.child(NONE, 0));
        due("no error", error(x), "0 at -1");
        sentence("an empty buffer");
        due("its length", x.append(0, 0, 0, 0, 0), 0);
        fails("no first bytes", x, NO_ARGUMENT, () -> x.insert(NONE, 0, 1));
        sentence("an empty output");
        fails("no first byte", x, NO_INDEX, () -> x.output(0));
        sentence("no saved states");
        fails("not in 0", x, NO_STATE, () -> x.restore(0));
        fails("not in 1", x, NO_STATE, () -> x.restore(1));
        sentence("no act");
        fails("none to undo", x, NO_STATE, x::undo);
        due("none done or refused", accounts(x), "0 0 0 0 0 0 0 0");
    }

    private static String appended(int a, int b, int c, int d, int e) {
        Keeper x = new Keeper();
        x.append(0x2a000000, 0, 0, 0, 0);
        int length = x.append(a, b, c, d, e) - 1;
        x.append(0x3b000000, 0, 0, 0, 0);
        return x.load() == 1 ? length + " " + name(x, 0) : length + " error " + error(x);
    }

    private static void promise2() {
        sentence("appends up to 20 bytes: the four bytes of each parameter, the most significant byte first");
        due("one parameter", appended(0x61626364, 0, 0, 0, 0), "4 abcd");
        due("the order of parameters", appended(0x61620000, 0x63000000, 0x64000000, 0x65000000, 0x66000000), "6 abcdef");
        due("20 bytes", new Keeper().append(0x01010101, -1, LEAST | 0x7f7f7f, GREATEST, 0x7fffff80), 20);
        Keeper x = new Keeper();
        x.append(0x20202020, 0x20202020, 0x20202020, 0x20202020, 0x20202078);
        due("the last of 20", x.load() + " " + error(x), "-1 1 at 19");
        sentence("bytes that are 0 are left out");
        due("the first byte", appended(0x00616263, 0, 0, 0, 0), "3 abc");
        due("the second byte", appended(0x61006263, 0, 0, 0, 0), "3 abc");
        due("the third byte", appended(0x61620063, 0, 0, 0, 0), "3 abc");
        due("the last byte", appended(0x61626300, 0, 0, 0, 0), "3 abc");
        due("all but the last", appended(0, 0, 0, 0, 0x61), "1 a");
        due("all", new Keeper().append(0, 0, 0, 0, 0), 0);
        due("the least int is one byte", new Keeper().append(LEAST, 0, 0, 0, 0), 1);
        due("the greatest int is four", new Keeper().append(0, 0, 0, 0, GREATEST), 4);
        sentence("bytes above 127 are bytes");
        due("128", appended(0x61808080, 0, 0, 0, 0), "4 error 1 at 2");
        due("255", appended(-1, -1, -1, -1, -1), "20 error 1 at 1");
        sentence("throws if it would be longer than 700 bytes");
        Keeper y = new Keeper();
        text(y, "x".repeat(680));
        due("20 more", y.append(-1, -1, -1, -1, -1), 700);
        due("zeros more", y.append(0, 0, 0, 0, 0), 700);
        for (int i = 0; i < 4; i++) {
            int one = 1 << 8 * i;
            fails("one byte more", y, NO_STATE, () -> y.append(one, 0, 0, 0, 0));
            fails("one byte more, at the end", y, NO_STATE, () -> y.append(0, 0, 0, 0, one));
        }
        fails("20 more", y, NO_STATE, () -> y.append(-1, -1, -1, -1, -1));
        Keeper z = new Keeper();
        text(z, "x".repeat(681));
        fails("20 more than 681", z, NO_STATE, () -> z.append(-1, -1, -1, -1, -1));
        due("19 more than 681", z.append(-1, -1, 0x00ffffff, -1, -1), 700);
    }

    private static void promise3() {
        sentence("load: if it has no error, it replaces everything but the accounts, the output and the saved states");
        Keeper x = busy();
        due("the headings", load(x, "*p;**q folded;"), 2);
        due("all", all(x), "1p 2q+|" + FIRST_STYLES + "|3 0 0 0 0 0 0 1|0|0|0|-1|1 a\n 1.1 b\n");
        due("the saved state", x.restore(0) + " " + row(x), "2 1a 2b");
        due("an empty outline replaces, too", x.load() + " " + all(x), "0 |" + FIRST_STYLES + "|3 0 0 0 0 0 0 1|0|0|0|-1|1 a\n 1.1 b\n");
        due("a full one", load(x, many(60)) + " " + x.size(0), "60 60");
        sentence("no act can be undone then");
        Keeper y = busy();
        load(y, "*p;");
        fails("undo", y, NO_STATE, y::undo);
        y.setPlain(0, true);
        due("but one behind it", y.undo() + " " + row(y), "0 1p");
        sentence("the buffer is empty afterwards, also if there is an error");
        due("without one", load(x, "*a;") + " " + x.size(5) + " " + x.append(0x61, 0, 0, 0, 0), "1 0 1");
        due("with one", load(x, "a") + " " + x.size(5) + " " + x.append(0x61, 0, 0, 0, 0), "-1 0 1");
        sentence("if the text has an error nothing else changes but the results of errorCode() and errorPosition()");
        for (String wrong : new String[] {"a", "*a;**b;style1upper;x", "**a;", CHAIN + "*******", many(60) + "*", "style 7 upper;"}) {
            Keeper same = busy();
            due(wrong, load(same, wrong), NONE);
            due(wrong, withoutError(same), withoutError(busy()));
        }
        sentence("returns the number of headings; NONE if the text has an error");
        due("1 and 60", load(new Keeper(), "*a;") + " " + load(new Keeper(), many(60)), "1 60");
        due("0", load(new Keeper(), "style1upper;"), 0);
        due("61", load(new Keeper(), many(61)), NONE);
    }

    /** A keeper that has something of all that there is. */
    private static Keeper busy() {
        Keeper x = keeper("*a;**b;");
        x.save(0);
        x.write();
        x.setStyle(1, 3, 9);
        x.setMode(2, true, true);
        x.fold(0, true);
        x.fold(0, true);
        return x;
    }

    private static String withoutError(Keeper x) {
        // A wrong text of both makes the results alike that may differ.
        load(x, "wrong");
        return everything(x);
    }

    private static void promise4() {
        sentence("play: the buffer is empty afterwards, also if there is an error");
        Keeper x = keeper(TREE);
        due("without one", play(x, "sort 0;") + " " + x.size(5), "1 0");
        due("with one", play(x, "sort 0") + " " + x.size(5), "-1 0");
        due("refused", play(x, "sort 6;") + " " + x.size(5), "0 0");
        sentence("returns the number of commands that were done");
        due("0 of 0", x.play(), 0);
        due("0 of 1", play(x, "promote 0;"), 0);
        due("1 of 2", play(x, "fold 0;fold 0;"), 1);
        due("40 of 40", play(keeper("*a;**b;"), "fold 0;unfold 0;".repeat(20)), 40);
        due("39 of 40", play(keeper("*a;**b;"), "fold 0;unfold 0;".repeat(19) + "fold 0;fold 0;"), 39);
        due("a command of which the act returns 0", play(keeper("*a;"), "dissolve 0;") + " " + play(keeper("*a;*b;"), "move 1 0 ahead;") + " " + play(keeper("*a;**b;"), "sort 0;"), "1 1 1");
        sentence("NONE if the text has an error: nothing else changes but the results of errorCode() and errorPosition()");
        for (String wrong : new String[] {"a", "remove 0;remove", "fold 60;", "fold0;".repeat(41), "*a;", "remove 0;.", "move 0 1 up;"}) {
            Keeper same = busy();
            due(wrong, play(same, wrong), NONE);
            due(wrong, withoutError(same), withoutError(busy()));
        }
        sentence("its acts are counted and can be undone, the latest 8");
        Keeper y = keeper("*a;**b;");
        due("40 commands", play(y, "fold 0;unfold 0;".repeat(20)) + " " + y.account(0) + " " + y.size(6), "40 40 8");
        due("undone", y.undo() + " " + row(y) + " " + y.undo() + " " + row(y), "7 1a+ 2b 6 1a 2b");
        Keeper z = keeper("*a;**b;");
        z.setStyle(1, 1, 1);
        due("behind an act", play(z, "fold 0;") + " " + z.undo() + " " + z.undo() + " " + z.style(1, 0), "1 1 0 0");
    }

    private static void promise5() {
        sentence("the error code of the latest load() or play(); 0 if its text had no error, or if there was no such call");
        Keeper x = new Keeper();
        due("no such call", x.errorCode(), 0);
        load(x, "**");
        due("load", x.errorCode(), 3);
        play(x, "fold 60");
        due("play behind load", x.errorCode(), 2);
        load(x, many(61));
        due("load behind play", x.errorCode(), 4);
        play(x, "x");
        due("play", x.errorCode(), 1);
        find(x, "a", true);
        insert(x, "a", NONE, 0);
        x.undo();
        x.save(0);
        x.restore(0);
        x.write();
        due("no other call", x.errorCode(), 1);
        play(x, "fold 5;");
        due("a PLACE without a heading is no error", x.errorCode(), 0);
        play(x, "x");
        x.load();
        due("an empty outline has none", x.errorCode(), 0);
        load(x, "x");
        x.play();
        due("an empty script has none", x.errorCode(), 0);
        load(x, "x");
        insert(x, "a", NONE, 0);
        play(x, "promote 0;");
        due("a refusal is no error", x.errorCode(), 0);
    }

    private static void promise6() {
        sentence("the error position of the latest load() or play(); NONE if its text had no error, or if there was no such call");
        Keeper x = new Keeper();
        due("no such call", x.errorPosition(), NONE);
        load(x, "x");
        due("0", x.errorPosition(), 0);
        play(x, " x");
        due("play", x.errorPosition(), 1);
        load(x, " ".repeat(699) + "*");
        due("700", x.errorPosition(), 700);
        load(x, " ".repeat(699) + "x");
        due("699", x.errorPosition(), 699);
        find(x, "a", true);
        due("no other call", x.errorPosition(), 699);
        play(x, "fold 5;");
        due("no error", x.errorPosition(), NONE);
        load(x, "x");
        x.load();
        due("an empty outline", x.errorPosition(), NONE);
    }

    private static void promise7() {
        sentence("finds the first heading whose name, or whose NUMBER, is the whole buffer");
        Keeper x = keeper("style 2 upper own;*b;*a;**a;*aa;*abcdefgh;");
        due("the first of several", find(x, "a", false), 1);
        due("a name that begins with it", find(x, "abcdefg", false), NONE);
        due("a name of 8 letters", find(x, "abcdefgh", false), 4);
        due("a buffer that begins with it", find(x, "abcdefghi", false), NONE);
        due("the place 0", find(x, "b", false), 0);
        due("a buffer of 700 bytes", find(x, "a".repeat(700), false) + find(x, "1".repeat(700), true), -2);
        due("a NUMBER", find(x, "1", true) + " " + find(x, "4", true) + " " + find(x, "A", true), "0 4 2");
        due("a capital letter is another one", find(x, "a", true), NONE);
        due("a NUMBER that begins with it", find(keeper(many(12)), "1", true) + " " + find(keeper(many(12)), "12", true) + " " + find(keeper(many(12)), "13", true), "0 11 -1");
        due("the first of like NUMBERs", find(keeper("style1upper from 9;style2roman own;*x;**y;"), "I", true), 0);
        Keeper deep = keeper(CHAIN);
        for (int level = 1; level <= 6; level++) {
            deep.setStyle(level, 4, 88);
        }
        due("the longest NUMBER", find(deep, "lxxxviii.".repeat(5) + "lxxxviii", true), 5);
        due("a byte less", find(deep, "lxxxviii.".repeat(5) + "lxxxvii", true), NONE);
        due("a byte more", find(deep, "lxxxviii.".repeat(5) + "lxxxviiii", true), NONE);
        Keeper gone = keeper("*a;*b;*c;");
        due("ahead of the end", find(gone, "3", true) + " " + find(gone, "c", false), "2 2");
        gone.remove(2);
        due("one that is gone", find(gone, "3", true) + " " + find(gone, "c", false), "-1 -1");
        sentence("the buffer is empty afterwards");
        due("found", find(x, "a", false) + " " + x.size(5), "1 0");
        due("not found", find(x, "q", false) + " " + x.size(5), "-1 0");
        sentence("NONE if there is none such (with an empty buffer always)");
        due("an empty buffer", x.find(false) + " " + x.find(true), "-1 -1");
        due("an empty NUMBER", keeper("*a plain;").find(true), NONE);
        due("without headings", find(new Keeper(), "a", false) + " " + find(new Keeper(), "1", true), "-1 -1");
    }

    // ---- what there is

    private static void promise8() {
        sentence("size: what 0 to 8");
        Keeper x = keeper("*a;**b plain folded;***c;***d;**e;*f folded;**g plain;style 3 none;style 2 decimal own;");
        text(x, "abc");
        x.setStyle(6, 1, 1);
        due("each", sizes(x), "7 4 3 3 2 3 1 2 2");
        fails("-1", x, NO_ARGUMENT, () -> x.size(-1));
        fails("9", x, NO_ARGUMENT, () -> x.size(9));
        for (int what : FAR) {
            fails("what " + what, x, NO_ARGUMENT, () -> x.size(what));
        }
        sentence("the greatest level (0 without headings)");
        due("0, 1, 6", new Keeper().size(3) + " " + keeper("*a;").size(3) + " " + keeper(CHAIN + "*g;").size(3), "0 1 6");
        due("of a hidden one", keeper("*a folded;**b;").size(3), 2);
        sentence("visible ones, numbered ones");
        due("numbered though hidden", keeper("*a folded;**b;").size(2), 2);
        due("plain though visible", keeper("*a plain;").size(1), 1);
        due("60", keeper(many(60)).size(1) + " " + keeper(many(60)).size(2), "60 60");
        sentence("bytes of the buffer");
        Keeper y = new Keeper();
        text(y, "\u00ff".repeat(700));
        due("700", y.size(5), 700);
        sentence("acts that can be undone");
        Keeper z = keeper("*a;**b;");
        play(z, "fold0;unfold0;fold0;unfold0;fold0;unfold0;fold0;");
        due("7, 8, 8", z.size(6) + " " + play(z, "unfold0;") + z.size(6) + " " + play(z, "fold0;") + z.size(6), "7 18 18");
        sentence("folded headings");
        due("without children, and hidden", keeper("*a folded;**b folded;").size(7), 2);
        sentence("headings whose NUMBER another heading has, too (those with an empty NUMBER are not counted)");
        due("none", keeper(TREE).size(8), 0);
        due("two of a kind, and three", keeper("style2decimal own;*a;**b;*c;**d;**e;").size(8), 5);
        due("empty ones", keeper("*a plain;*b plain;").size(8), 0);
        due("I of two styles", keeper("style1upper from 9;style2roman own;*a;**b;").size(8), 2);
        due("i of two styles", keeper("style1lower from 9;style2small own;*a;**b;").size(8), 2);
        due("I and i", keeper("style1upper from 9;style2small own;*a;**b;").size(8), 0);
        due("behind a like one", keeper("style1upper from 3;style2upper own;style3upper own;*a;**b;**c;**d;***e;").size(8), 4);
        due("with a full stop", keeper("style3decimal own;*a;**b;***c;****d;").size(8), 4);
        due("alike from the end on alone", keeper("*a;**b;*c;**d;").size(8), 0);
        due("one longer", keeper("style2decimal own;*a;**b;***c;").size(8), 2);
        due("all of 60", keeper("style2decimal own;" + "*a;**b;".repeat(30)).size(8), 31);
        Keeper alike = keeper("style2decimal own;*a;**b;");
        due("with one that is gone then", alike.size(8) + " " + alike.remove(1) + " " + alike.size(8), "2 1 0");
    }

    private static String sizes(Keeper x) {
        StringBuilder s = new StringBuilder();
        for (int what = 0; what <= 8; what++) {
            s.append(what == 0 ? "" : " ").append(x.size(what));
        }
        return s.toString();
    }

    private static String headings(Keeper x, int place) {
        StringBuilder s = new StringBuilder();
        for (int what = 0; what <= 11; what++) {
            s.append(what == 0 ? "" : " ").append(x.heading(place, what));
        }
        return s.toString();
    }

    private static void promise9() {
        sentence("heading: what 0 to 11");
        Keeper x = keeper("style 2 small from 8;*a plain;**bcd folded;***c;***d;**e;*f;");
        due("the first", headings(x, 0), "1 -1 2 5 3 0 1 0 1 -1 0 1");
        due("the second", headings(x, 1), "2 0 2 3 3 0 0 1 1 8 4 3");
        due("the fourth", headings(x, 3), "3 1 0 1 3 1 0 0 0 2 6 1");
        due("the last", headings(x, 5), "1 -1 0 1 1 1 0 0 1 1 1 1");
        fails("-1", x, NO_ARGUMENT, () -> x.heading(0, -1));
        fails("12", x, NO_ARGUMENT, () -> x.heading(5, 12));
        for (int far : FAR) {
            fails("what " + far, x, NO_ARGUMENT, () -> x.heading(0, far));
            fails("place " + far, x, NO_INDEX, () -> x.heading(far, 0));
        }
        sentence("headings of its branch, the greatest level in its branch");
        Keeper chain = keeper(CHAIN);
        due("six deep", chain.heading(0, 3) + " " + chain.heading(0, 4) + " " + chain.heading(5, 3) + " " + chain.heading(5, 4), "6 6 1 6");
        due("not of the next branch", keeper("*a;*b;**c;").heading(0, 4), 1);
        sentence("how many of its siblings are ahead of it (plain ones, too)");
        due("plain ones, and without their branches", keeper("*a plain;**x;**y;*b;").heading(3, 5), 1);
        due("59", keeper(many(60)).heading(59, 5), 59);
        due("not those of another parent", keeper("*a;**b;*c;**d;").heading(3, 5), 0);
        sentence("its COUNT (NONE if it is not numbered)");
        due("99 to 158", keeper("style1upper from 99;" + many(60)).heading(0, 9) + " " + keeper("style1upper from 99;" + many(60)).heading(59, 9), "99 158");
        due("plain, none", keeper("*a plain;").heading(0, 9) + " " + keeper("style1none;*a;").heading(0, 9), "-1 -1");
        sentence("letters of its name");
        due("1 and 8", keeper("*a;*abcdefgh;").heading(0, 11) + " " + keeper("*a;*abcdefgh;").heading(1, 11), "1 8");
    }

    private static void promise10() {
        sentence("letter: this letter of its name as a byte; NONE if there is none such");
        Keeper x = keeper("*abcdefgh;*z;");
        due("the first and the last of 8", x.letter(0, 0) + " " + x.letter(0, 7), "97 104");
        due("behind and ahead", x.letter(0, 8) + " " + x.letter(0, -1), "-1 -1");
        due("of one", x.letter(1, 0) + " " + x.letter(1, 1) + " " + x.letter(1, 7) + " " + x.letter(1, 8), "122 -1 -1 -1");
        for (int far : FAR) {
            due("index " + far, x.letter(0, far), NONE);
            fails("place " + far, x, NO_INDEX, () -> x.letter(far, 0));
        }
        fails("no such heading, no such letter", x, NO_INDEX, () -> x.letter(2, 9));
    }

    private static void promise11() {
        sentence("number: this byte of its NUMBER; NONE if there is none such");
        Keeper x = keeper("*a;**b;*c plain;");
        due("the first and the last", x.number(1, 0) + " " + x.number(1, 1) + " " + x.number(1, 2), "49 46 49");
        due("behind and ahead", x.number(1, 3) + " " + x.number(1, -1), "-1 -1");
        due("of an empty one", x.number(2, 0), NONE);
        for (int far : FAR) {
            due("index " + far, x.number(0, far), NONE);
            fails("place " + far, x, NO_INDEX, () -> x.number(far, 0));
        }
        fails("no such heading, no such byte", x, NO_INDEX, () -> x.number(3, 9));
    }

    private static void promise12() {
        sentence("style: level 1 to 6, what 0 to 3");
        Keeper x = keeper("style1roman from 99 own on;style6none from 2;");
        due("each of the first and the last level", styles(x), "3,99,1,1 0,1,0,0 0,1,0,0 0,1,0,0 0,1,0,0 5,2,0,0");
        fails("what -1", x, NO_ARGUMENT, () -> x.style(1, -1));
        fails("what 4", x, NO_ARGUMENT, () -> x.style(6, 4));
        fails("level 0", x, NO_INDEX, () -> x.style(0, 0));
        fails("level 7", x, NO_INDEX, () -> x.style(7, 3));
        for (int far : FAR) {
            fails("what " + far, x, NO_ARGUMENT, () -> x.style(1, far));
            fails("level " + far, x, NO_INDEX, () -> x.style(far, far));
        }
    }

    private static void promise13() {
        sentence("child: 0 for the first child; NONE for those without a parent");
        Keeper x = keeper(TREE);
        due("the first and the last", x.child(0, 0) + " " + x.child(0, 1) + " " + x.child(NONE, 0) + " " + x.child(NONE, 1), "1 4 0 5");
        due("a grandchild is none", x.child(1, 0) + " " + x.child(1, 1), "2 3");
        due("the last of 60", keeper(many(60)).child(NONE, 59) + " " + keeper("*a;" + "**b;".repeat(59)).child(0, 58), "59 59");
        fails("behind the last", x, NO_ELEMENT, () -> x.child(0, 2));
        fails("behind the last without a parent", x, NO_ELEMENT, () -> x.child(NONE, 2));
        fails("ahead of the first", x, NO_ELEMENT, () -> x.child(0, -1));
        fails("ahead of the first without a parent", x, NO_ELEMENT, () -> x.child(NONE, -1));
        fails("without children", x, NO_ELEMENT, () -> x.child(4, 0));
        fails("place -2", x, NO_INDEX, () -> x.child(-2, 0));
        fails("place 7", x, NO_INDEX, () -> x.child(7, 0));
        for (int far : FAR) {
            fails("child " + far, x, NO_ELEMENT, () -> x.child(0, far));
            fails("place " + far, x, NO_INDEX, () -> x.child(far, far));
        }
        Keeper full = keeper(many(60));
        fails("child 60 of 60", full, NO_ELEMENT, () -> full.child(NONE, 60));
    }

    private static void promise14() {
        sentence("common: the deepest heading in whose branch both are; NONE if there is none");
        Keeper x = keeper("*a;**b;***c;***d;**e;*f;");
        due("both the same", x.common(3, 3) + " " + x.common(0, 0), "3 0");
        due("one is an ancestor", x.common(1, 3) + " " + x.common(3, 1) + " " + x.common(0, 3) + " " + x.common(3, 0), "1 1 0 0");
        due("siblings", x.common(2, 3) + " " + x.common(4, 1), "1 0");
        due("an uncle", x.common(3, 4) + " " + x.common(4, 2), "0 0");
        due("none", x.common(0, 5) + " " + x.common(5, 3), "-1 -1");
        Keeper deep = keeper(CHAIN + CHAIN);
        due("none, from the depth", deep.common(5, 11) + " " + deep.common(11, 5), "-1 -1");
        due("top and bottom", deep.common(6, 11) + " " + deep.common(11, 6), "6 6");
        Keeper forked = keeper(CHAIN + CHAIN.substring(3));
        due("at the top, from the depth", forked.common(5, 10) + " " + forked.common(10, 5), "0 0");
        for (int far : FAR) {
            fails("one " + far, x, NO_INDEX, () -> x.common(far, 0));
            fails("other " + far, x, NO_INDEX, () -> x.common(0, far));
            fails("both " + far, x, NO_INDEX, () -> x.common(far, far));
        }
    }

    private static void promise15() {
        sentence("visible: index 0 for the first one; NONE if there is none such");
        Keeper x = keeper("*a folded;**b;*c;**d folded;***e;");
        due("each", x.visible(0) + " " + x.visible(1) + " " + x.visible(2), "0 2 3");
        due("behind and ahead", x.visible(3) + " " + x.visible(-1), "-1 -1");
        for (int far : FAR) {
            due("index " + far, x.visible(far), NONE);
        }
        due("60", keeper(many(60)).visible(59) + " " + keeper(many(60)).visible(60), "59 -1");
        due("without headings", new Keeper().visible(0), NONE);
    }

    private static void promise16() {
        sentence("largest: the heading without a parent whose branch is the largest, the first one of several; NONE without headings");
        due("none", new Keeper().largest(), NONE);
        due("one", keeper("*a;").largest(), 0);
        due("the first of several", keeper("*a;*b;**c;*d;**e;").largest(), 1);
        due("all alike", keeper(many(60)).largest(), 0);
        due("the last", keeper("*a;*b;**c;*d;**e;***f;").largest(), 3);
        due("not one with a parent", keeper("*a;**b;***c;***d;*e;").largest(), 0);
        due("hidden ones count", keeper("*a;**b;*c folded;**d;**e;").largest(), 2);
    }

    private static void promise17() {
        sentence("account: what 0 to 7");
        Keeper x = keeper("*a folded;**b;*c;");
        x.fold(0, true);
        x.setPlain(2, false);
        x.promote(0);
        x.fold(0, false);
        due("each", accounts(x), "1 0 0 0 1 0 0 2");
        fails("-1", x, NO_ARGUMENT, () -> x.account(-1));
        fails("8", x, NO_ARGUMENT, () -> x.account(8));
        for (int what : FAR) {
            fails("what " + what, x, NO_ARGUMENT, () -> x.account(what));
        }
        sentence("acts that were done since this object was created (those that were undone count, too)");
        x.undo();
        due("undone", x.account(0), 1);
        x.save(0);
        x.restore(0);
        load(x, "*a;");
        due("behind load() and restore()", accounts(x), "1 0 0 0 1 0 0 2");
        for (int i = 0; i < 20; i++) {
            x.setStyle(1, 0, 1);
        }
        due("more than can be undone", x.account(0), 21);
        due("a load, a write, a save are no acts", x.size(6) + " " + x.write() + " " + x.save(1) + " " + x.account(0), "8 4 1 21");
        sentence("1 to 7 refusals with this reason, all of them");
        Keeper y = keeper("*a;");
        for (int i = 0; i < 100; i++) {
            y.promote(0);
        }
        due("100", accounts(y), "0 0 0 0 100 0 0 0");
        fails("a call that throws", y, NO_INDEX, () -> y.promote(1));
        due("is none", accounts(y), "0 0 0 0 100 0 0 0");
    }

    private static void promise18() {
        sentence("share: the visible headings divided by all headings, as floats; 0.0f without headings");
        due("without headings", new Keeper().share(), 0.0f);
        due("all", keeper(many(60)).share(), 1.0f);
        due("one of 3", keeper("*a folded;**b;**c;").share(), 1.0f / 3.0f);
        due("one of 60", keeper("*a folded;" + "**b;".repeat(59)).share(), 1.0f / 60.0f);
        due("59 of 60", keeper("*b folded;**c;" + many(58)).share(), 59.0f / 60.0f);
    }

    private static void promise19() {
        sentence("meanLevel: the levels divided by the number of headings, as doubles; 0.0 without headings");
        due("without headings", new Keeper().meanLevel(), 0.0);
        due("one", keeper("*a;").meanLevel(), 1.0);
        due("a third", keeper("*a;*b;**c;").meanLevel(), 4.0 / 3.0);
        due("hidden ones, too", keeper("*a folded;**b;").meanLevel(), 1.5);
        due("60 deep ones", keeper("*a;**b;***c;****d;*****e;" + "******f;".repeat(55)).meanLevel(), 345.0 / 60.0);
    }

    // ---- what would be

    private static void promise20() {
        sentence("whyNot: 0 if such a move would be done; otherwise the reason why not");
        Keeper x = keeper(CHAIN + "*g;**h;");
        due("0", x.whyNot(5, 6, 0) + " " + x.whyNot(6, 0, 0) + " " + x.whyNot(6, 3, 3), "0 0 0");
        due("1 at the first level above", x.whyNot(6, 4, 2) + " " + x.whyNot(7, 5, 2) + " " + x.whyNot(7, 5, 3) + " " + x.whyNot(6, 5, 1), "1 1 1 1");
        due("0 at the last one", x.whyNot(7, 4, 2) + " " + x.whyNot(7, 5, 0) + " " + x.whyNot(7, 5, 1) + " " + x.whyNot(6, 3, 2), "0 0 0 0");
        due("2 for each of the branch", x.whyNot(6, 6, 0) + " " + x.whyNot(6, 7, 1) + " " + x.whyNot(0, 5, 0), "2 2 2");
        due("2 ahead of 1", x.whyNot(0, 5, 2) + " " + x.whyNot(0, 0, 2), "2 2");
        due("0 directly ahead of the branch, behind it", x.whyNot(5, 4, 2) + " " + x.whyNot(0, 6, 0), "0 0");
        sentence("nothing changes");
        due("no account", accounts(x) + " " + x.size(6), "0 0 0 0 0 0 0 0 0");
        sentence("way: 0 to 3");
        waysThrow("whyNot", x, (k, place, target, way) -> k.whyNot(place, target, way));
    }

    private interface Moving {
        int of(Keeper x, int place, int target, int way);
    }

    private static void waysThrow(String what, Keeper x, Moving call) {
        due(what + " with 0 and 3", call.of(x, 1, 0, 0) != NONE && call.of(x, 1, 0, 3) != NONE, true);
        for (int way : new int[] {-1, 4, LEAST, GREATEST}) {
            fails(what + ", way " + way, x, NO_ARGUMENT, () -> call.of(x, 0, 1, way));
        }
        for (int far : FAR) {
            fails(what + ", place " + far, x, NO_INDEX, () -> call.of(x, far, 0, 0));
            fails(what + ", target " + far, x, NO_INDEX, () -> call.of(x, 0, far, 0));
            fails(what + ", all " + far, x, NO_INDEX, () -> call.of(x, far, far, far));
        }
    }

    private static void promise21() {
        sentence("changedBy: how many headings would have another NUMBER than now, wherever they stand");
        Keeper x = keeper("*a;*b;*c;*d;");
        due("none where it stays", x.changedBy(2, 1, 1) + " " + x.changedBy(2, 3, 0) + " " + x.changedBy(0, 1, 0) + " " + x.changedBy(3, 2, 1), "0 0 0 0");
        due("two that change places", x.changedBy(0, 1, 1), 2);
        due("all", x.changedBy(0, 3, 1) + " " + x.changedBy(3, 0, 0), "4 4");
        due("all of 60", keeper(many(60)).changedBy(0, 59, 1) + " " + keeper(many(60)).changedBy(59, 0, 0), "60 60");
        due("those below change with it", keeper("*a;**b;***c;*d;").changedBy(0, 3, 1), 4);
        due("a plain one that moves", keeper("*a plain;*b;*c;").changedBy(0, 2, 1), 0);
        due("a plain one whose children lose their head", keeper("*a;**b;*c plain;").changedBy(1, 2, 2), 1);
        due("one that gets none", keeper("style2none;*a;*b;").changedBy(1, 0, 2), 1);
        due("one that had none and gets none", keeper("style1none;style2none;*a;*b;").changedBy(1, 0, 2), 0);
        due("one that had none and gets one", keeper("style1none;*a;*b;").changedBy(1, 0, 2), 1);
        due("another style, the same text", keeper("style1upper from 8;style2roman own;*a;*b;").changedBy(1, 0, 2), 0);
        due("another level, the same text", keeper("style2decimal own;*a;**b;").changedBy(1, 0, 0), 1);
        due("a level that is on", keeper("style2upper own on;*a;**b;**c;*d;**e;").changedBy(4, 0, 2), 3);
        sentence("NONE if it would be refused");
        Keeper deep = keeper(CHAIN + "*g;");
        due("refused", deep.changedBy(6, 5, 2) + " " + deep.changedBy(0, 5, 0) + " " + deep.changedBy(3, 3, 3), "-1 -1 -1");
        sentence("nothing changes");
        due("no account", accounts(deep) + " " + deep.size(6) + " " + row(deep), "0 0 0 0 0 0 0 0 0 1a 2b 3c 4d 5e 6f 1g");
        sentence("way: 0 to 3");
        waysThrow("changedBy", x, (k, place, target, way) -> k.changedBy(place, target, way));
    }

    private static void promise22() {
        sentence("cheapest: of those that would be done (also one that leaves it where it is)");
        Keeper x = keeper("*a;*b;*c;*d;");
        due("where it is", x.cheapest(0, 1) + " " + x.cheapest(1, 1) + " " + x.cheapest(3, 1), "10 1 21");
        due("refused ones are none", keeper(CHAIN).cheapest(0, 1) + " " + keeper(CHAIN + "*g;").cheapest(0, 2), "-1 -1");
        sentence("by which the heading would have a level");
        due("2", x.cheapest(3, 2) + " " + x.cheapest(0, 2), "2 12");
        due("6", keeper(CHAIN + "*g;").cheapest(6, 6) + " " + keeper(CHAIN + "*g;").cheapest(5, 6), "43 42");
        due("from 6 to 1", keeper(CHAIN + "*g;").cheapest(5, 1), 61);
        sentence("10 times the target plus the way, the least such number of several moves that change as few");
        due("the last child of the first one is not the least", keeper("*a;**b;*c;").cheapest(2, 2), 3);
        due("ways of one target", keeper("*a;*b;").cheapest(1, 2), 2);
        due("a target above 9", keeper(many(12)).cheapest(11, 1) + " " + keeper(many(60)).cheapest(59, 1) + " " + keeper(many(60)).cheapest(58, 1), "101 581 571");
        due("fewer changes beat a lesser number", keeper("*a;**b;**c;*d;**e;").cheapest(4, 2), 32);
        due("to the end of 60", keeper("*a;**b;" + many(58)).cheapest(1, 1), 591);
        due("plain ones ahead and behind", keeper("*a plain;*b;*c plain;*d;").cheapest(1, 1) + " " + keeper("*x;*a plain;*b;*c plain;*d;").cheapest(2, 1), "0 1");
        sentence("NONE if there is no such move");
        due("too deep a level", x.cheapest(0, 3) + " " + x.cheapest(0, 6), "-1 -1");
        due("no other heading", keeper("*a;").cheapest(0, 1) + " " + keeper("*a;").cheapest(0, 2), "-1 -1");
        sentence("nothing changes");
        due("no account", all(x), "1a 1b 1c 1d|" + FIRST_STYLES + "|0 0 0 0 0 0 0 0|0|0|0|-1|");
        sentence("no such heading or level");
        for (int level : WRONG_LEVELS) {
            fails("level " + level, x, NO_INDEX, () -> x.cheapest(0, level));
        }
        for (int far : FAR) {
            fails("place " + far, x, NO_INDEX, () -> x.cheapest(far, 1));
        }
        fails("place 4", x, NO_INDEX, () -> x.cheapest(4, 1));
        fails("place -1", x, NO_INDEX, () -> x.cheapest(-1, 1));
    }

    private static void promise23() {
        sentence("wouldHide: how many visible headings would not be visible any more if it was folded now (0 if it is folded already)");
        Keeper x = keeper("*a;**b folded;***c;**d;*e folded;**f;");
        due("not those that are hidden already", x.wouldHide(0), 2);
        due("folded already", x.wouldHide(1) + " " + x.wouldHide(4), "0 0");
        due("hidden itself", x.wouldHide(2) + " " + x.wouldHide(5), "0 0");
        due("without children", x.wouldHide(3), 0);
        due("59", keeper("*a;" + "**b;".repeat(59)).wouldHide(0), 59);
        due("hidden, with children", keeper("*a folded;**b;***c;").wouldHide(1), 0);
        sentence("nothing changes");
        due("not folded", row(x) + " " + accounts(x), "1a 2b+ 3c 2d 1e+ 2f 0 0 0 0 0 0 0 0");
        for (int far : FAR) {
            fails("place " + far, x, NO_INDEX, () -> x.wouldHide(far));
        }
        fails("place 6", x, NO_INDEX, () -> x.wouldHide(6));
    }

    // ---- acts

    private static void promise24() {
        sentence("insert: neither plain nor folded, whose name is the first bytes of the buffer");
        Keeper x = keeper("*a plain folded;**b;");
        text(x, "abcdefghijk");
        due("8 of 11", x.insert(0, 0, 8) + " " + row(x), "0 1abcdefgh 1a!+ 2b");
        text(x, "q*;");
        due("1 of 3", x.insert(2, 3, 1) + " " + row(x), "3 1abcdefgh 1a!+ 2b 3q");
        sentence("the whole buffer is empty then, also if this is refused");
        due("done", x.size(5), 0);
        Keeper deep = keeper(CHAIN);
        text(deep, "ab*;cd");
        due("refused", deep.insert(5, 2, 2) + " " + deep.size(5), "-1 0");
        Keeper full = keeper(many(60));
        text(full, "ab*;cd");
        due("refused where 60 are", full.insert(NONE, 0, 2) + " " + full.size(5), "-3 0");
        sentence("NONE: it comes behind all others, with the level 1 (the way does not matter then, but must be in its range)");
        for (int way = 0; way <= 3; way++) {
            Keeper y = keeper("*a;**b;***c;");
            due("way " + way, insert(y, "x", NONE, way) + " " + row(y), "3 1a 2b 3c 1x");
            due("the first one, way " + way, insert(new Keeper(), "x", NONE, way), 0);
        }
        for (int way : new int[] {-1, 4, LEAST, GREATEST}) {
            Keeper y = keeper("*a;");
            text(y, "x");
            fails("NONE and way " + way, y, NO_ARGUMENT, () -> y.insert(NONE, way, 1));
            fails("way " + way, y, NO_ARGUMENT, () -> y.insert(0, way, 1));
        }
        sentence("as if it was moved there; returns its place");
        due("ahead", inserted(1, 0), "1: 1a 2x 2b 3c 2d 1e");
        due("behind", inserted(1, 1), "3: 1a 2b 3c 2x 2d 1e");
        due("first", inserted(1, 2), "2: 1a 2b 3x 3c 2d 1e");
        due("last", inserted(1, 3), "3: 1a 2b 3c 3x 2d 1e");
        insertBytes();
    }

    private static String inserted(int target, int way) {
        Keeper x = keeper("*a;**b;***c;**d;*e;");
        return insert(x, "x", target, way) + ": " + row(x);
    }

    private static void insertBytes() {
        sentence("bytes: 1 to 8");
        Keeper x = keeper("*a;");
        text(x, "abcdefghi");
        for (int bytes : new int[] {0, -1, 9, LEAST, GREATEST}) {
            fails("bytes " + bytes, x, NO_ARGUMENT, () -> x.insert(0, 0, bytes));
        }
        for (int bytes = 1; bytes <= 8; bytes++) {
            Keeper y = new Keeper();
            text(y, "abcdefghi");
            due("bytes " + bytes, y.insert(NONE, 0, bytes) + " " + name(y, 0), "0 " + "abcdefgh".substring(0, bytes));
        }
        sentence("throws if the buffer has fewer bytes, or one of these bytes is not a letter a to z");
        for (int bytes = 1; bytes <= 8; bytes++) {
            int more = bytes;
            Keeper y = new Keeper();
            text(y, "z".repeat(bytes - 1));
            fails("a byte too few", y, NO_ARGUMENT, () -> y.insert(NONE, 0, more));
            text(y, "{");
            fails("the last is no letter", y, NO_ARGUMENT, () -> y.insert(NONE, 0, more));
        }
        for (String sign : new String[] {"`", "{", "A", "Z", " ", "\n", "0", "\u00e1", "\u00fa", "\u0001"}) {
            Keeper y = new Keeper();
            text(y, sign + "bc");
            fails("the first is " + sign, y, NO_ARGUMENT, () -> y.insert(NONE, 0, 1));
            Keeper z = new Keeper();
            text(z, "ab" + sign);
            due("the byte behind them does not matter", z.insert(NONE, 0, 2), 0);
        }
        sentence("target: the place of a heading, or NONE");
        for (int target : new int[] {-2, 1, 60, LEAST, GREATEST}) {
            fails("target " + target, x, NO_INDEX, () -> x.insert(target, 0, 1));
        }
        Keeper empty = new Keeper();
        text(empty, "a");
        fails("0 without headings", empty, NO_INDEX, () -> empty.insert(0, 0, 1));
    }

    private static void promise25() {
        sentence("remove: returns how many headings were removed");
        Keeper x = keeper(TREE);
        due("one at the end", x.remove(6) + " " + row(x), "1 1a 2b 3c 3d 2e 1f");
        due("a branch in the middle", x.remove(1) + " " + row(x), "3 1a 2e 1f");
        due("the first branch", x.remove(0) + " " + row(x), "2 1f");
        due("the last one", x.remove(0) + " " + row(x), "1 ");
        fails("none is left", x, NO_INDEX, () -> x.remove(0));
        due("all of 60", keeper("*a;" + "**b;".repeat(59)).remove(0), 60);
        for (int far : FAR) {
            fails("place " + far, x, NO_INDEX, () -> x.remove(far));
        }
        sentence("the others keep what they have");
        Keeper y = keeper("*a;*b plain folded;**c;*d folded;");
        due("plain and folded", y.remove(0) + " " + row(y), "1 1b!+ 2c 1d+");
    }

    private static void promise26() {
        sentence("dissolve: removes a heading alone; the levels of all others of its branch become one less");
        Keeper x = keeper("*a;**b;***c;****d;***e;**f;*g;");
        due("returns how many are left", x.dissolve(1) + " " + row(x), "6 1a 2c 3d 2e 2f 1g");
        due("of level 1", x.dissolve(0) + " " + row(x), "5 1c 2d 1e 1f 1g");
        due("without children", x.dissolve(2) + " " + row(x), "4 1c 2d 1f 1g");
        due("the last", x.dissolve(3) + " " + row(x), "3 1c 2d 1f");
        due("0 are left", keeper("*a;").dissolve(0), 0);
        due("59 are left", keeper(many(60)).dissolve(59), 59);
        due("from level 6", row(dissolved(CHAIN, 4)), "1a 2b 3c 4d 5f");
        due("what they have stays", row(dissolved("*a folded;**b plain folded;***c;", 0)), "1b!+ 2c");
        for (int far : FAR) {
            fails("place " + far, x, NO_INDEX, () -> x.dissolve(far));
        }
        fails("place 3", x, NO_INDEX, () -> x.dissolve(3));
    }

    private static Keeper dissolved(String outline, int place) {
        Keeper x = keeper(outline);
        x.dissolve(place);
        return x;
    }

    private static void promise27() {
        sentence("move: returns the place of the moved heading then");
        Keeper x = keeper("*a;**b;*c;*d;");
        due("down by its own branch", x.move(0, 3, 1) + " " + row(x), "2 1c 1d 1a 2b");
        due("up to 0", x.move(2, 0, 0) + " " + row(x), "0 1a 2b 1c 1d");
        due("to the end", x.move(1, 3, 3) + " " + row(x), "3 1a 1c 1d 2b");
        due("59", keeper(many(60)).move(0, 59, 1), 59);
        sentence("or minus the reason: 2, 1");
        Keeper deep = keeper(CHAIN + "*g;**h;");
        refused("the target is itself", deep, 2, () -> deep.move(0, 0, 0));
        refused("the last of the branch", deep, 2, () -> deep.move(0, 5, 1));
        refused("2 ahead of 1", deep, 2, () -> deep.move(0, 5, 2));
        refused("level 7", deep, 1, () -> deep.move(7, 5, 2));
        refused("level 7 of a child", deep, 1, () -> deep.move(6, 4, 3));
        due("level 6 of a child", deep.move(6, 3, 3) + " " + row(deep), "6 1a 2b 3c 4d 5e 6f 5g 6h");
        sentence("way: 0 to 3");
        Keeper y = keeper("*a;**b;*c;");
        waysThrow("move", y, (k, place, target, way) -> k.move(place, target, way));
    }

    private static void promise28() {
        sentence("promote: all its levels become one less; the row stays as it is. (So siblings that follow it become its children.)");
        Keeper x = keeper("*a;**b;***c;**d;*e;");
        due("returns the level then", x.promote(1) + " " + row(x) + " " + x.heading(1, 2), "1 1a 1b 2c 2d 1e 2");
        Keeper deep = keeper(CHAIN + "******g;");
        due("from 6", deep.promote(5) + " " + row(deep) + " " + deep.heading(6, 1), "5 1a 2b 3c 4d 5e 5f 6g 5");
        due("the last", deep.promote(6) + " " + deep.heading(6, 0), "5 5");
        sentence("or minus the reason: 4");
        refused("level 1", x, 4, () -> x.promote(0));
        refused("level 1 by a promotion", x, 4, () -> x.promote(1));
        for (int far : FAR) {
            fails("place " + far, x, NO_INDEX, () -> x.promote(far));
        }
        fails("place 5", x, NO_INDEX, () -> x.promote(5));
    }

    private static void promise29() {
        sentence("demote: all its levels become one greater; the row stays as it is. (So it becomes the last child of the sibling ahead of it.)");
        Keeper x = keeper("*a;**b;*c;**d;*e;");
        due("returns the level then", x.demote(2) + " " + row(x) + " " + x.heading(2, 1) + " " + x.child(0, 1), "2 1a 2b 2c 3d 1e 0 2");
        due("up to 6", keeper("*a;**b;***c;****d;*****e;*****f;").demote(5), 6);
        due("the last of 60", keeper(many(60)).demote(59), 2);
        sentence("or minus the reason: 5, 1");
        refused("the first heading", x, 5, () -> x.demote(0));
        refused("the first child", x, 5, () -> x.demote(1));
        Keeper deep = keeper("*x;" + CHAIN + "******g;");
        refused("level 7", deep, 1, () -> deep.demote(7));
        refused("level 7 of a child", deep, 1, () -> deep.demote(1));
        refused("5 ahead of 1", deep, 5, () -> deep.demote(6));
        due("level 6 of a child", keeper("*x;*a;**b;***c;****d;*****e;").demote(1), 2);
        for (int far : FAR) {
            fails("place " + far, x, NO_INDEX, () -> x.demote(far));
        }
        fails("place 5", x, NO_INDEX, () -> x.demote(5));
    }

    private static void promise30() {
        sentence("fold: returns how many headings are visible then");
        Keeper x = keeper(TREE);
        due("folded", x.fold(1, true) + " " + x.fold(0, true) + " " + x.fold(5, true), "5 3 2");
        due("unfolded", x.fold(1, false) + " " + x.fold(0, false) + " " + x.fold(5, false), "2 6 7");
        due("all of 60", keeper("*a;" + "**b;".repeat(59)).fold(0, true), 1);
        sentence("or minus the reason: 7; 6 (if it would be folded)");
        refused("unfolded", x, 7, () -> x.fold(0, false));
        refused("unfolded, without children", x, 7, () -> x.fold(6, false));
        refused("no children", x, 6, () -> x.fold(6, true));
        Keeper y = keeper("*a folded;*b;**c folded;");
        refused("folded, without children", y, 7, () -> y.fold(0, true));
        due("no children, but unfolded", y.fold(0, false) + " " + y.fold(2, false), "3 3");
        for (int far : FAR) {
            fails("place " + far, x, NO_INDEX, () -> x.fold(far, true));
            fails("place " + far, x, NO_INDEX, () -> x.fold(far, false));
        }
        fails("place 7", x, NO_INDEX, () -> x.fold(7, true));
    }

    private static void promise31() {
        sentence("foldTo: folds all headings with at least a level that have children, and unfolds all others");
        String outline = "*a folded;**b;***c folded;**d folded;*e;**f;***g;****h;*****i;******j;";
        String[] due = {"2 1a+ 2b+ 3c 2d 1e+ 2f+ 3g+ 4h+ 5i+ 6j", "5 1a 2b+ 3c 2d 1e 2f+ 3g+ 4h+ 5i+ 6j", "7 1a 2b 3c 2d 1e 2f 3g+ 4h+ 5i+ 6j",
            "8 1a 2b 3c 2d 1e 2f 3g 4h+ 5i+ 6j", "9 1a 2b 3c 2d 1e 2f 3g 4h 5i+ 6j", "10 1a 2b 3c 2d 1e 2f 3g 4h 5i 6j"};
        for (int level = 1; level <= 6; level++) {
            Keeper x = keeper(outline);
            due("level " + level, x.foldTo(level) + " " + row(x), due[level - 1]);
        }
        Keeper y = keeper(outline);
        for (int level : WRONG_LEVELS) {
            fails("level " + level, y, NO_INDEX, () -> y.foldTo(level));
        }
        sentence("without a heading it is done, too");
        Keeper z = new Keeper();
        due("0 are visible", z.foldTo(1) + " " + z.account(0) + " " + z.undo(), "0 1 0");
    }

    private static String sorted(String outline, int place, int by) {
        Keeper x = keeper(outline);
        return x.sort(place, by) + ": " + row(x);
    }

    private static void promise32() {
        sentence("sort 0 by names (a shorter name is ahead of a longer one that begins with it)");
        due("one letter", sorted("*c;*a;*b;", NONE, 0), "3: 1a 1b 1c");
        due("shorter ones", sorted("*abcdefgh;*abcdefg;*b;*ab;*a;", NONE, 0), "5: 1a 1ab 1abcdefg 1abcdefgh 1b");
        due("a shorter one that is greater", sorted("*b;*ab;", NONE, 0), "2: 1ab 1b");
        due("the last letter of eight", sorted("*zzzzzzzz;*zzzzzzzy;*aaaaaaab;*aaaaaaaa;", NONE, 0), "4: 1aaaaaaaa 1aaaaaaab 1zzzzzzzy 1zzzzzzzz");
        sentence("1 by the headings of their branches, the most first");
        due("branches", sorted("*a;*b;**x;*c;**y;***z;", NONE, 1), "2: 1c 2y 3z 1b 2x 1a");
        sentence("2 the order that they have is turned round");
        due("odd", sorted("*a;**x;*c;*b;", NONE, 2), "2: 1b 1c 1a 2x");
        due("even", sorted("*a;*a;*b;*b;", NONE, 2), "4: 1b 1b 1a 1a");
        sentence("those that are alike stay in their order");
        due("by names", sorted("*b;*a;**x;*b plain;*a;**y;*a plain;", NONE, 0), "5: 1a 2x 1a 2y 1a! 1b 1b!");
        due("by branches", sorted("*a;*b;**x;*c;*d;**y;", NONE, 1), "4: 1b 2x 1d 2y 1a 1c");
        due("all", sorted("*a;*a plain;*a;", NONE, 0) + ", " + sorted("*c;*b;*a;", NONE, 1), "0: 1a 1a! 1a, 0: 1c 1b 1a");
        sentence("the children of a heading, with their branches");
        due("not the grandchildren", sorted("*b;**z;***y;***x;**a;*a;", 0, 0), "2: 1b 2a 2z 3y 3x 1a");
        due("those without a parent", sorted("*b;**z;**y;*a;", NONE, 0), "2: 1a 1b 2z 2y");
        due("at level 6", sorted(CHAIN + "******e;******d;", 4, 0), "2: 1a 2b 3c 4d 5e 6d 6e 6f");
        due("in the middle", sorted("*z;*y;**b;**a;*x;", 1, 2), "2: 1z 1y 2a 2b 1x");
        sortAnswers();
    }

    private static void sortAnswers() {
        sentence("returns how many of them have another number of siblings ahead of them then (0 for one child alone)");
        due("one child alone", sorted("*a;**b;***d;***c;", 0, 0) + ", " + sorted("*a;", NONE, 2), "0: 1a 2b 3d 3c, 0: 1a");
        due("60", sorted(many(60), NONE, 2).substring(0, 3), "60:");
        due("59 of 60 with the middle", sorted(many(59), NONE, 2).substring(0, 3), "58:");
        due("two of four", sorted("*a;*c;*b;*d;", NONE, 0), "2: 1a 1b 1c 1d");
        sentence("or minus the reason: 6");
        Keeper x = keeper(TREE);
        refused("no children", x, 6, () -> x.sort(2, 0));
        Keeper empty = new Keeper();
        refused("no headings", empty, 6, () -> empty.sort(NONE, 2));
        sentence("by: 0 to 2");
        for (int by : new int[] {-1, 3, LEAST, GREATEST}) {
            fails("by " + by, x, NO_ARGUMENT, () -> x.sort(0, by));
            fails("NONE by " + by, x, NO_ARGUMENT, () -> x.sort(NONE, by));
        }
        for (int place : new int[] {-2, 7, LEAST, GREATEST}) {
            fails("place " + place, x, NO_INDEX, () -> x.sort(place, 0));
        }
    }

    private static void promise33() {
        sentence("setPlain: returns how many headings are numbered then");
        Keeper x = keeper("*a;**b;");
        due("plain", x.setPlain(0, true) + " " + x.setPlain(1, true), "1 0");
        due("not plain", x.setPlain(1, false) + " " + x.setPlain(0, false), "1 2");
        due("not by a style none", keeper("style1none;*a;**b plain;").setPlain(1, false), 1);
        due("60", keeper("*a plain;" + many(59)).setPlain(0, false), 60);
        sentence("or minus the reason: 7");
        refused("not plain", x, 7, () -> x.setPlain(0, false));
        x.setPlain(0, true);
        refused("plain", x, 7, () -> x.setPlain(0, true));
        for (int far : FAR) {
            fails("place " + far, x, NO_INDEX, () -> x.setPlain(far, true));
            fails("place " + far, x, NO_INDEX, () -> x.setPlain(far, false));
        }
        fails("place 2", x, NO_INDEX, () -> x.setPlain(2, true));
    }

    private static void promise34() {
        sentence("setStyle: level 1 to 6, style 0 to 5, start 1 to 99; returns the style before");
        Keeper x = keeper("style1none own on;");
        due("the least", x.setStyle(1, 0, 1) + " " + styles(x), "5 0,1,1,1" + FIRST_STYLES.substring(7));
        due("the greatest", x.setStyle(6, 5, 99) + " " + x.setStyle(6, 5, 99) + " " + styles(x), "0 5 0,1,1,1" + FIRST_STYLES.substring(7, 40) + "5,99,0,0");
        for (int style = 0; style <= 5; style++) {
            due("style " + style, x.setStyle(3, style, 2) + " " + x.style(3, 0), Math.max(style - 1, 0) + " " + style);
        }
        for (int wrong : new int[] {-1, 6, LEAST, GREATEST}) {
            fails("style " + wrong, x, NO_ARGUMENT, () -> x.setStyle(1, wrong, 1));
        }
        for (int wrong : new int[] {0, 100, -1, LEAST, GREATEST}) {
            fails("start " + wrong, x, NO_ARGUMENT, () -> x.setStyle(1, 0, wrong));
        }
        for (int level : WRONG_LEVELS) {
            fails("level " + level, x, NO_INDEX, () -> x.setStyle(level, 0, 1));
        }
        sentence("it is done also if it is so already");
        due("an act", x.setStyle(1, 0, 1) + " " + x.account(7), "0 0");
    }

    private static void promise35() {
        sentence("setMode: returns 2 if it was \"own\" before, plus 1 if it was \"on\" before");
        Keeper x = keeper("style6upper from 9;");
        due("0, 1, 2, 3", x.setMode(6, false, true) + " " + x.setMode(6, true, false) + " " + x.setMode(6, true, true) + " " + x.setMode(6, false, false), "0 1 2 3");
        due("it is done also if it is so already", x.setMode(6, false, false) + " " + x.account(0) + " " + x.account(7), "0 5 0");
        due("each alone", x.setMode(1, true, false) + " " + x.setMode(5, false, true) + " " + styles(x), "0 0 0,1,1,0 0,1,0,0 0,1,0,0 0,1,0,0 0,1,0,1 1,9,0,0");
        for (int level : WRONG_LEVELS) {
            fails("level " + level, x, NO_INDEX, () -> x.setMode(level, true, true));
        }
    }

    // ---- output, undo, saved states

    private static void promise36() {
        sentence("write: as many spaces as its level less 1, its NUMBER and a space if it is not empty, its name, a plus sign, a line feed");
        due("each level", written(keeper(CHAIN)), "1 a\n 1.1 b\n  1.1.1 c\n   1.1.1.1 d\n    1.1.1.1.1 e\n     1.1.1.1.1.1 f\n");
        due("without a NUMBER", written(keeper("*a plain;**b plain;")), "a\n b\n");
        due("folded, also without children", written(keeper("*a folded;")), "1 a+\n");
        due("a name of 8 letters", written(keeper("*abcdefgh;")), "1 abcdefgh\n");
        sentence("the visible headings, by their places");
        due("hidden ones are not written, but are counted", written(keeper("style2decimal own on;*a folded;**b;*c;**d;")), "1 a+\n2 c\n 2 d\n");
        sentence("as the output, which is replaced; returns the number of its bytes");
        Keeper x = keeper("*a;*b;");
        due("8", x.write(), 8);
        x.remove(1);
        due("4", x.write() + " " + latestOutput(x), "4 1 a\n");
        x.remove(0);
        due("0", x.write() + " " + latestOutput(x), "0 ");
        due("without headings", new Keeper().write(), 0);
        sentence("a very long output");
        Keeper y = keeper("*aaaaaaaa;**aaaaaaaa;***aaaaaaaa;****aaaaaaaa;*****aaaaaaaa;");
        for (int i = 0; i < 55; i++) {
            insert(y, "bbbbbbbb", 4, 3);
        }
        for (int level = 1; level <= 6; level++) {
            y.setStyle(level, 3, 88);
        }
        String[] lines = written(y).split("\n");
        due("its lines", lines.length, 60);
        due("its fifth line", lines[4], "    " + "LXXXVIII.".repeat(4) + "LXXXVIII aaaaaaaa");
        due("its sixth line", lines[5], "     " + "LXXXVIII.".repeat(5) + "LXXXVIII bbbbbbbb");
        due("its last line", lines[59], "     " + "LXXXVIII.".repeat(5) + "CXLII bbbbbbbb");
    }

    private static void promise37() {
        sentence("output: 0 for the first byte; throws if there is no such byte");
        Keeper x = keeper("*a;");
        fails("nothing is written", x, NO_INDEX, () -> x.output(0));
        x.write();
        due("the first and the last", x.output(0) + " " + x.output(3), "49 10");
        fails("behind the last", x, NO_INDEX, () -> x.output(4));
        fails("ahead of the first", x, NO_INDEX, () -> x.output(-1));
        for (int far : FAR) {
            fails("index " + far, x, NO_INDEX, () -> x.output(far));
        }
        x.setPlain(0, true);
        due("it stays", latestOutput(x), "1 a\n");
        x.write();
        fails("a shorter one", x, NO_INDEX, () -> x.output(2));
        x.remove(0);
        x.write();
        fails("an empty one", x, NO_INDEX, () -> x.output(0));
    }

    private static void promise38() {
        sentence("undo: everything but the accounts, the buffer, the results of errorCode() and errorPosition(), the output and the saved states is as it was");
        Keeper x = keeper("*a;**b;");
        x.remove(0);
        x.save(1);
        x.write();
        load(x, "*");
        text(x, "xyz");
        due("returns the number of acts that can still be undone", x.undo(), 0);
        due("all", all(x), "1a 2b|" + FIRST_STYLES + "|1 0 0 0 0 0 0 0|3|0|1|1|");
        due("the saved state", x.restore(1), 0);
        sentence("throws if there is no act to undo");
        Keeper y = keeper("*a;");
        fails("behind a load", y, NO_STATE, y::undo);
        y.promote(0);
        fails("behind a refusal", y, NO_STATE, y::undo);
        y.setStyle(1, 1, 1);
        due("behind an act", y.undo(), 0);
        fails("a second time", y, NO_STATE, y::undo);
        y.save(0);
        y.setStyle(1, 1, 1);
        y.restore(0);
        fails("behind a restore", y, NO_STATE, y::undo);
        sentence("8 acts");
        Keeper z = keeper("*a;");
        for (int i = 0; i < 30; i++) {
            z.setStyle(1, 0, 2 + i);
            if (i % 3 == 2) {
                due("one of three is undone", z.undo() + " " + z.style(1, 1), Math.min(i - i / 3, 7) + " " + (1 + i));
            }
        }
        due("as many as there can be", z.size(6), 7);
        z.setStyle(1, 0, 99);
        StringBuilder starts = new StringBuilder();
        while (z.size(6) > 0) {
            z.undo();
            starts.append(z.style(1, 1)).append(' ');
        }
        due("each of them", starts.toString(), "30 29 27 26 24 23 21 20 ");
    }

    private static void promise39() {
        sentence("save: slot 0 or 1; a state that is already saved there is replaced");
        Keeper x = keeper("style1upper from 2 own on;*a plain;**b folded;");
        due("returns the number of headings", x.save(0) + " " + x.save(1), "2 2");
        x.remove(1);
        due("replaced", x.save(1) + " " + x.restore(1) + " " + row(x), "1 1 1a!");
        due("the other one is not", x.restore(0) + " " + row(x) + " " + styles(x).substring(0, 7), "2 1a! 2b+ 1,2,1,1");
        due("0 headings", new Keeper().save(0), 0);
        due("60 headings", keeper(many(60)).save(1), 60);
        for (int slot : new int[] {-1, 2, LEAST, GREATEST}) {
            fails("slot " + slot, x, NO_INDEX, () -> x.save(slot));
        }
        sentence("everything that undo() brings back, but not which acts can be undone");
        Keeper y = keeper("*a;**b;");
        y.fold(0, true);
        y.save(0);
        due("acts can be undone behind it", y.size(6) + " " + y.undo() + " " + row(y), "1 0 1a 2b");
        y.fold(0, true);
        y.setMode(1, true, true);
        y.restore(0);
        due("none behind the restore", y.size(6) + " " + row(y) + " " + y.style(1, 2), "0 1a+ 2b 0");
        due("it does not change with the outline", y.remove(0) + " " + y.restore(0) + " " + row(y), "2 2 1a+ 2b");
    }

    private static void promise40() {
        sentence("restore: a saved state, which stays saved; no act can be undone then");
        Keeper x = keeper("*a;**b;");
        x.save(1);
        x.write();
        load(x, "*");
        text(x, "xyz");
        x.setStyle(1, 4, 9);
        x.promote(0);
        x.remove(0);
        due("returns the number of headings then", x.restore(1), 2);
        due("all", all(x), "1a 2b|" + FIRST_STYLES + "|2 0 0 0 1 0 0 0|3|0|1|1|1 a\n 1.1 b\n");
        fails("undo", x, NO_STATE, x::undo);
        due("again", x.dissolve(0) + " " + x.restore(1) + " " + row(x), "1 2 1a 2b");
        Keeper empty = new Keeper();
        empty.save(0);
        due("an empty one", insert(empty, "a", NONE, 0) + " " + empty.restore(0) + " " + empty.size(0), "0 0 0");
        sentence("throws if slot is neither, or if nothing is saved there");
        for (int slot : new int[] {-1, 2, LEAST, GREATEST}) {
            fails("slot " + slot, x, NO_INDEX, () -> x.restore(slot));
        }
        fails("nothing in 0", x, NO_STATE, () -> x.restore(0));
        Keeper y = keeper("*a;");
        y.save(0);
        fails("nothing in 1", y, NO_STATE, () -> y.restore(1));
        Keeper z = new Keeper();
        fails("a wrong slot where nothing is saved", z, NO_INDEX, () -> z.restore(2));
    }

    public static void main(String[] args) {
        Runnable[] tests = {
            EdgeTests::promise1, EdgeTests::promise2, EdgeTests::promise3, EdgeTests::promise4, EdgeTests::promise5,
            EdgeTests::promise6, EdgeTests::promise7, EdgeTests::promise8, EdgeTests::promise9, EdgeTests::promise10,
            EdgeTests::promise11, EdgeTests::promise12, EdgeTests::promise13, EdgeTests::promise14, EdgeTests::promise15,
            EdgeTests::promise16, EdgeTests::promise17, EdgeTests::promise18, EdgeTests::promise19, EdgeTests::promise20,
            EdgeTests::promise21, EdgeTests::promise22, EdgeTests::promise23, EdgeTests::promise24, EdgeTests::promise25,
            EdgeTests::promise26, EdgeTests::promise27, EdgeTests::promise28, EdgeTests::promise29, EdgeTests::promise30,
            EdgeTests::promise31, EdgeTests::promise32, EdgeTests::promise33, EdgeTests::promise34, EdgeTests::promise35,
            EdgeTests::promise36, EdgeTests::promise37, EdgeTests::promise38, EdgeTests::promise39, EdgeTests::promise40};
        for (int i = 0; i < tests.length; i++) {
            test("promise " + (i + 1), tests[i]);
        }
        end();
    }
}
