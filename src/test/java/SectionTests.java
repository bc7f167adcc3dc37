/**
 * "What it is" and the sections 1 to 6 of the document: a test for each sentence that names an edge.
 */
public final class SectionTests extends Checks {
    private static final String MANY_COMMANDS = "fold0;".repeat(40);

    // ---- what it is

    private static void whatItIs() {
        sentence("an object is used for at most 512 calls");
        Keeper x = keeper(TREE);
        while (x.calls.size() < MOST_CALLS - 1) {
            x.setStyle(1, 0, x.calls.size() % 99 + 1);
        }
        due("the last call of 512", x.account(0), MOST_CALLS - 1 - 3);
        Keeper y = keeper("*a;");
        while (y.calls.size() < MOST_CALLS - 1) {
            y.fold(0, true);
        }
        due("the last of 512 with refusals", y.account(6), MOST_CALLS - 1 - 2);
        Keeper w = new Keeper();
        while (w.calls.size() < MOST_CALLS) {
            due("up to 128 acts and undos", insert(w, "a", NONE, 0) + " " + w.undo() + " " + w.size(0), "0 0 0");
        }
        Keeper z = keeper(many(60));
        for (int i = z.calls.size(); i < MOST_CALLS - 1; i++) {
            due("a dear call, again and again", z.cheapest(i % 60, 1), i % 60 == 0 ? 10 : 10 * (i % 60) - 9);
        }
        due("the last of 512 dear ones", z.cheapest(59, 2), 2);

        sentence("objects are apart");
        Keeper a = keeper(TREE);
        Keeper b = keeper(CHAIN);
        a.save(0);
        a.write();
        a.remove(0);
        due("the other one", all(b), "1a 2b 3c 4d 5e 6f|" + FIRST_STYLES + "|0 0 0 0 0 0 0 0|0|0|0|-1|");
        fails("what is saved in one is not in the other", b, NO_STATE, () -> b.restore(0));
        fails("what is done in one is not undone in the other", b, NO_STATE, b::undo);
    }

    // ---- section 1

    private static void headings() {
        sentence("an outline is a row of at most 60 headings");
        Keeper x = keeper(many(59));
        due("the 60th", insert(x, "x", NONE, 0), 59);
        refuseInsert("the 61st at the end", x, 3, NONE, 0);
        refuseInsert("the 61st ahead", x, 3, 0, 0);
        refuseInsert("the 61st behind", x, 3, 59, 1);
        refuseInsert("the 61st first", x, 3, 0, 2);
        refuseInsert("the 61st last", x, 3, 59, 3);
        due("60 as a text", load(new Keeper(), many(60)), 60);
        due("61 as a text", load(new Keeper(), many(61)), NONE);
        due("all of 60 can go", x.dissolve(0) + " " + insert(x, "y", 0, 0) + " " + x.size(0), "59 0 60");
        due("60 stay 60 by a move", x.move(0, 59, 1) + " " + x.size(0), "59 60");
        due("and come back by an undo", x.remove(0) + " " + x.undo() + " " + x.size(0), "1 4 60");

        sentence("the place of a heading is its number in this row, from 0 on");
        Keeper y = keeper("*a;*b;*c;");
        due("the first", name(y, 0), "a");
        due("the last", name(y, 2), "c");
        fails("behind the last", y, NO_INDEX, () -> y.heading(3, 0));
        fails("ahead of the first", y, NO_INDEX, () -> y.heading(-1, 0));
        due("the last of 60", keeper(many(60)).heading(59, 0), 1);
        Keeper full = keeper(many(60));
        fails("behind 60", full, NO_INDEX, () -> full.heading(60, 0));
        Keeper empty = new Keeper();
        fails("of none", empty, NO_INDEX, () -> empty.heading(0, 0));

        names();
        levels();
        folding();
    }

    private static void refuseInsert(String what, Keeper x, int reason, int target, int way) {
        text(x, "abc;*");
        refusedInsert(what, x, reason, () -> x.insert(target, way, 3));
    }

    private static void names() {
        sentence("a heading has a name (1 to 8 letters a to z)");
        Keeper x = new Keeper();
        due("1 letter", insert(x, "a", NONE, 0) + " " + x.heading(0, 11), "0 1");
        due("8 letters", insert(x, "zzzzzzzz", NONE, 0) + " " + x.heading(1, 11) + " " + name(x, 1), "1 8 zzzzzzzz");
        text(x, "abcdefghi");
        fails("0 letters", x, NO_ARGUMENT, () -> x.insert(NONE, 0, 0));
        fails("9 letters", x, NO_ARGUMENT, () -> x.insert(NONE, 0, 9));
        due("1 letter as a text", load(new Keeper(), "*z;"), 1);
        due("8 letters as a text", name(keeper("*azazazaz;"), 0), "azazazaz");
        due("9 letters as a text", load(new Keeper(), "*azazazaza;"), NONE);
        due("no letter as a text", load(new Keeper(), "*;"), NONE);
        due("all letters", row(keeper("*abcdefgh;*ijklmnop;*qrstuvwx;*yz;")), "1abcdefgh 1ijklmnop 1qrstuvwx 1yz");
        for (String sign : new String[] {"`", "{", "A", "Z", "@", "[", "0", "\u00e1", "\u00fa"}) {
            due("a text with " + sign, load(new Keeper(), "*a" + sign + ";"), NONE);
            Keeper y = new Keeper();
            text(y, "a" + sign);
            fails("an insert with " + sign, y, NO_ARGUMENT, () -> y.insert(NONE, 0, 2));
        }

        sentence("several can have the same name");
        due("as a text", row(keeper("*a;**a;*a;")), "1a 2a 1a");
        Keeper z = keeper("*a;");
        due("by inserts", insert(z, "a", 0, 0) + " " + insert(z, "a", 0, 2) + " " + row(z), "0 1 1a 2a 1a");
    }

    private static void levels() {
        sentence("a level is 1 to 6");
        due("1 to 6", row(keeper(CHAIN)), "1a 2b 3c 4d 5e 6f");
        due("7 as a text", load(new Keeper(), CHAIN + "*******g;"), NONE);
        due("0 as a text", load(new Keeper(), "a;"), NONE);
        Keeper x = keeper(CHAIN + "******g;");
        refuseInsert("7 by an insert", x, 1, 6, 2);
        refused("7 by a demotion", x, 1, () -> x.demote(6));
        refused("7 by a move", x, 1, () -> x.move(6, 5, 2));
        refused("0 by a promotion", x, 4, () -> x.promote(0));

        sentence("the first heading has the level 1");
        due("2 as a text", load(new Keeper(), "**a;"), NONE);
        Keeper y = keeper("*a;**b;***c;*d;");
        due("it goes, and its children become the first", y.dissolve(0) + " " + row(y), "3 1b 2c 1d");
        due("a branch goes ahead of it", y.move(1, 0, 0) + " " + row(y), "0 1c 1b 1d");
        due("it is removed", y.remove(0) + " " + row(y), "1 1b 1d");
        due("an insert ahead of it", insert(y, "x", 0, 0) + " " + row(y), "0 1x 1b 1d");
        refused("it is not demoted", y, 5, () -> y.demote(0));

        sentence("the level of each other one is at most one greater than that of the heading directly ahead of it");
        due("one greater", load(new Keeper(), "*a;**b;"), 2);
        due("two greater", load(new Keeper(), "*a;***b;"), NONE);
        due("as great", load(new Keeper(), CHAIN + "******g;"), 7);
        due("much less", load(new Keeper(), CHAIN + "*g;"), 7);
        due("two greater than the one ahead, not than another", load(new Keeper(), "*a;**b;*c;***d;"), NONE);
    }

    private static void folding() {
        sentence("folded: it stays so also when its children are gone");
        Keeper x = keeper("*a;**b folded;***c;**d folded;***e;**f folded;***g;*h folded;**i;");
        due("by a removal", x.remove(2) + " " + row(x), "1 1a 2b+ 2d+ 3e 2f+ 3g 1h+ 2i");
        due("by dissolving", x.dissolve(3) + " " + row(x), "7 1a 2b+ 2d+ 2f+ 3g 1h+ 2i");
        due("by a move", x.move(4, 0, 1) + " " + row(x), "4 1a 2b+ 2d+ 2f+ 1g 1h+ 2i");
        due("by a promotion", x.promote(6) + " " + row(x), "1 1a 2b+ 2d+ 2f+ 1g 1h+ 1i");
        due("then it hides nothing", x.size(1) + " " + x.size(7), "7 4");
        due("as a text", x.save(0) + " " + row(keeper("*a folded;")), "7 1a+");
        due("and hides a child that comes", insert(x, "x", 3, 2) + " " + x.size(1) + " " + x.heading(4, 8), "4 7 0");

        sentence("the branch of a heading: all that directly follow it and have greater levels");
        Keeper y = keeper("*a;**b;***c;**d;*e;*f;**g;");
        due("a level as great ends it", y.heading(1, 3) + " " + y.heading(4, 3), "2 1");
        due("a lower level ends it", y.heading(3, 3) + " " + y.heading(2, 3), "1 1");
        due("up to the end of the row", y.heading(5, 3) + " " + y.heading(6, 3), "2 1");
        due("greater levels do not end it", y.heading(0, 3), 4);
        due("all of 60", keeper("*a;" + "**b;".repeat(59)).heading(0, 3), 60);

        sentence("the parent is the nearest heading ahead with a lower level; those of level 1 have none");
        due("parents", y.heading(1, 1) + " " + y.heading(2, 1) + " " + y.heading(3, 1) + " " + y.heading(6, 1), "0 1 0 5");
        due("none", y.heading(0, 1) + " " + y.heading(4, 1) + " " + y.heading(5, 1), "-1 -1 -1");
        due("siblings, with a parent and without one", y.heading(3, 5) + " " + y.heading(6, 5) + " " + y.heading(5, 5) + " " + y.heading(0, 5), "1 0 2 0");

        sentence("a heading is visible if none of its ancestors is folded");
        due("itself folded", keeper("*a folded;**b;").heading(0, 8), 1);
        due("the parent folded", keeper("*a folded;**b;").heading(1, 8), 0);
        due("the ancestor above an unfolded one", keeper("*a folded;**b;***c;").heading(2, 8), 0);
        due("the highest of five", keeper(CHAIN.replace("*a", "*a folded")).size(1), 1);
        due("the lowest of five", keeper(CHAIN.replace("*e", "*e folded")).size(1), 5);
        due("a sibling folded", keeper("*a;**b folded;***c;**d;").heading(3, 8), 1);
        due("two folded, one in the other", keeper("*a folded;**b folded;***c;**d;*e;").size(1), 2);
    }

    // ---- section 2

    private static void numbering() {
        sentence("at first each level has the style decimal, the START 1, and is neither \"own\" nor \"on\"");
        due("a new one", styles(new Keeper()), FIRST_STYLES);
        due("an outline without styles", styles(keeper(TREE)), FIRST_STYLES);

        sentence("a START is 1 to 99");
        Keeper x = keeper("*a;");
        due("1 and 99", x.setStyle(1, 0, 99) + " " + x.heading(0, 9) + " " + x.setStyle(1, 0, 1) + " " + x.heading(0, 9), "0 99 0 1");
        due("1 and 99 as texts", styles(keeper("style1upper from 1;style2upper from 99;")).substring(0, 16), "1,1,0,0 1,99,0,0");
        fails("0", x, NO_ARGUMENT, () -> x.setStyle(1, 0, 0));
        fails("100", x, NO_ARGUMENT, () -> x.setStyle(1, 0, 100));

        sentence("a heading is numbered if it is not plain and the style of its level is not none");
        due("plain", keeper("*a plain;").heading(0, 9), NONE);
        due("none", keeper("style1none;*a;").heading(0, 9), NONE);
        due("both", keeper("style1none;*a plain;").heading(0, 9), NONE);
        due("neither", keeper("style2none;*a;").heading(0, 9), 1);
        due("none of another level", keeper("style1none;*a;**b;").heading(1, 9), 1);

        counting();
        signs();
        texts();
    }

    private static void counting() {
        sentence("the COUNT: of all of the level if it is \"on\", otherwise of its siblings");
        due("siblings", numbers(keeper("style2decimal own;*a;**b;**c;*d;**e;")), "1 1 2 2 1");
        due("on", numbers(keeper("style2decimal own on;*a;**b;**c;*d;**e;")), "1 1 2 2 3");
        due("on at level 1", numbers(keeper("style1decimal on;*a;**b;*c;")), "1 1.1 2");
        due("on at level 3, not at 2", numbers(keeper("style2decimal own;style3decimal own on;*a;**b;***c;**d;***e;*f;**g;***h;")), "1 1 1 2 2 2 1 3");
        due("on at level 2, not at 3", numbers(keeper("style2decimal own on;style3decimal own;*a;**b;***c;**d;***e;*f;**g;***h;")), "1 1 1 2 1 2 3 1");
        due("on at level 6", numbers(keeper("style6decimal own on;" + CHAIN + CHAIN)), "1 1.1 1.1.1 1.1.1.1 1.1.1.1.1 1 2 2.1 2.1.1 2.1.1.1 2.1.1.1.1 2");
        due("not on at level 6", numbers(keeper("style6decimal own;" + CHAIN + CHAIN)).endsWith(" 1"), true);

        sentence("1 more for each numbered heading ahead");
        due("plain ones do not count", numbers(keeper("*a;*b plain;*c;")), "1 - 2");
        due("a plain one first", numbers(keeper("*a plain;*b;")), "- 1");
        due("on, with a plain one", numbers(keeper("style2decimal own on;*a;**b plain;**c;*d;**e;**f plain;**g;")), "1 - 1 2 2 - 3");
        due("those behind do not count", numbers(keeper("*a;*b;")), "1 2");
        due("a plain parent is a parent", numbers(keeper("*a;**b;*c plain;**d;")), "1 1.1 - 1");
        due("the START of each level", numbers(keeper("style1decimal from 7;style2decimal from 98 on;*a;**b;*c;**d;**e;")), "7 7.98 8 8.99 8.100");
        Keeper most = keeper("style 1 decimal from 99;" + many(60));
        due("the greatest COUNT", most.heading(59, 9) + " " + number(most, 59), "158 158");
    }

    private static void signs() {
        for (int style = 0; style <= 4; style++) {
            sentence("the sign of a COUNT with style " + style);
            for (int start = 1; start <= 99; start += 49) {
                Keeper x = keeper(many(60));
                x.setStyle(1, style, start);
                String[] got = numbers(x).split(" ");
                for (int i = 0; i < 60; i++) {
                    due("the sign of " + (start + i), got[i], sign(style, start + i));
                    due("its bytes", x.heading(i, 10), sign(style, start + i).length());
                }
            }
        }
        sentence("upper: A to Z for 1 to 26, AA to AZ for 27 to 52, and so on; 4 is IV, 9 IX, 40 XL, 90 XC");
        Keeper y = keeper(many(60));
        y.setStyle(1, 1, 25);
        due("letters", numbers(y).substring(0, 14), "Y Z AA AB AC A");
        due("the second turn", number(y, 26) + " " + number(y, 27) + " " + number(y, 28), "AY AZ BA");
        y.setStyle(1, 2, 77);
        due("small letters", number(y, 0) + " " + number(y, 1) + " " + number(y, 2), "by bz ca");
        due("the third turn", number(y, 27) + " " + number(y, 28) + " " + number(y, 54), "cz da ea");
        y.setStyle(1, 3, 1);
        due("Roman", number(y, 3) + " " + number(y, 8) + " " + number(y, 39) + " " + number(y, 48), "IV IX XL XLIX");
        y.setStyle(1, 4, 88);
        due("small Roman", number(y, 0) + " " + number(y, 2) + " " + number(y, 11) + " " + number(y, 12), "lxxxviii xc xcix c");
    }

    private static String sign(int style, int count) {
        switch (style) {
            case 0: return Integer.toString(count);
            case 1: return letters(count, 'A');
            case 2: return letters(count, 'a');
            case 3: return roman(count);
            default: return roman(count).toLowerCase();
        }
    }

    private static String letters(int count, char first) {
        String last = String.valueOf((char) (first + (count - 1) % 26));
        return count <= 26 ? last : (char) (first + (count - 27) / 26) + last;
    }

    private static String roman(int count) {
        int[] worth = {100, 90, 50, 40, 10, 9, 5, 4, 1};
        String[] signs = {"C", "XC", "L", "XL", "X", "IX", "V", "IV", "I"};
        StringBuilder s = new StringBuilder();
        int rest = count;
        for (int i = 0; i < worth.length; i++) {
            for (; rest >= worth[i]; rest -= worth[i]) {
                s.append(signs[i]);
            }
        }
        return s.toString();
    }

    private static void texts() {
        sentence("the NUMBER is empty if the heading is not numbered");
        due("plain", number(keeper("*a;**b plain;"), 1), "");
        due("none", number(keeper("style2none;*a;**b;"), 1), "");

        sentence("if its level is not \"own\" and it has a parent whose NUMBER is not empty, this stands ahead");
        due("own", number(keeper("style2decimal own;*a;**b;"), 1), "1");
        due("own has a child that is not", number(keeper("style2upper own;*a;**b;***c;"), 2), "A.1");
        due("the parent is plain", number(keeper("*a plain;**b;"), 1), "1");
        due("the parent has none, the one above it has", number(keeper("style2none;*a;**b;***c;"), 2), "1");
        due("six levels", number(keeper(CHAIN), 5), "1.1.1.1.1.1");
        Keeper x = keeper(CHAIN);
        for (int level = 1; level <= 6; level++) {
            x.setStyle(level, 3, 88);
        }
        due("the longest of six", number(x, 5) + " " + x.heading(5, 10), "LXXXVIII.".repeat(5) + "LXXXVIII 53");
        due("its bytes", x.number(5, 52) + " " + x.number(5, 53), "73 -1");
    }

    // ---- section 3

    private static String moved(String outline, int place, int target, int way) {
        Keeper x = keeper(outline);
        return x.move(place, target, way) + ": " + row(x);
    }

    private static void moves() {
        String outline = "*a;**b;***c;*d;**e;***f;*g;";
        sentence("0 ahead: directly ahead of the target, with its level");
        due("up", moved(outline, 6, 1, 0), "1: 1a 2g 2b 3c 1d 2e 3f");
        due("down", moved(outline, 1, 5, 0), "3: 1a 1d 2e 3b 4c 3f 1g");
        due("ahead of all", moved(outline, 5, 0, 0), "0: 1f 1a 2b 3c 1d 2e 1g");
        due("directly ahead of what follows its branch", moved(outline, 1, 3, 0), "1: 1a 1b 2c 1d 2e 3f 1g");

        sentence("1 behind: directly behind the branch of the target, with the level of the target");
        due("up", moved(outline, 6, 1, 1), "3: 1a 2b 3c 2g 1d 2e 3f");
        due("down", moved(outline, 0, 4, 1), "3: 1d 2e 3f 2a 3b 4c 1g");
        due("behind all", moved(outline, 0, 6, 1), "4: 1d 2e 3f 1g 1a 2b 3c");
        due("behind the branch that it is in", moved(outline, 4, 3, 1), "4: 1a 2b 3c 1d 1e 2f 1g");

        sentence("2 first: directly behind the target, with a level one greater");
        due("up", moved(outline, 6, 0, 2), "1: 1a 2g 2b 3c 1d 2e 3f");
        due("down", moved(outline, 1, 6, 2), "5: 1a 1d 2e 3f 1g 2b 3c");
        due("of the one that it is in", moved("*a;**b;**c;***d;", 2, 0, 2), "1: 1a 2c 3d 2b");
        due("the one directly ahead", moved(outline, 3, 2, 2), "3: 1a 2b 3c 4d 5e 6f 1g");

        sentence("3 last: directly behind the branch of the target, with a level one greater than the target");
        due("up", moved(outline, 6, 0, 3), "3: 1a 2b 3c 2g 1d 2e 3f");
        due("down", moved(outline, 1, 3, 3), "4: 1a 1d 2e 3f 2b 3c 1g");
        due("of the one that it is in", moved("*a;**b;***x;**c;", 1, 0, 3), "2: 1a 2c 2b 3x");
        due("of one without children", moved(outline, 1, 6, 3), "5: 1a 1d 2e 3f 1g 2b 3c");

        sentence("the levels of the others of its branch change by as much");
        due("one less", moved("*a;**b;***c;****d;", 1, 0, 1), "1: 1a 1b 2c 3d");
        due("three less", moved("*a;**b;***c;****d;*****e;", 3, 0, 0), "0: 1d 2e 1a 2b 3c");
        due("up to 6", moved(CHAIN + "*g;**h;", 6, 3, 2), "4: 1a 2b 3c 4d 5g 6h 5e 6f");

        sentence("in the row from which the moved branch has been taken out; its order inside stays");
        due("its own branch is not in that of the target", moved("*a;**b;***c;**d;", 1, 0, 1), "2: 1a 2d 1b 2c");
        due("the row closes", moved("*a;**b;**c;**d;", 1, 3, 1), "3: 1a 2c 2d 2b");
        due("order", moved("*a;**z;***y;**x;*b;", 0, 4, 1), "1: 1b 1a 2z 3y 2x");
        due("a whole row of 60", moved("*a;**b;" + "***c;".repeat(57) + "*d;", 1, 59, 2).startsWith("2: 1a 1d 2b 3c 3c "), true);

        sentence("all that a heading has goes with it");
        due("plain and folded", moved("*a;**b plain folded;***c plain;*d folded;", 1, 3, 3), "2: 1a 1d+ 2b!+ 3c!");
    }

    // ---- section 4

    private static void acts() {
        reasons();
        firstReasons();
        undoing();
    }

    /** A keeper for which everything that a refusal must not change is there. */
    private static Keeper rich(String outline) {
        Keeper x = keeper(outline);
        x.setStyle(2, 3, 5);
        x.save(1);
        x.setMode(3, true, true);
        x.setPlain(0, true);
        x.write();
        text(x, "*q");
        x.load();
        text(x, "xyz;*q;fold");
        return x;
    }

    private static void reasons() {
        String deep = CHAIN + "******g;*h;";
        sentence("1 a level would be greater than 6");
        Keeper x = rich(deep);
        refused("move first", x, 1, () -> x.move(7, 5, 2));
        refused("move last", x, 1, () -> x.move(7, 6, 3));
        refused("move, by the branch", x, 1, () -> x.move(0, 7, 2));
        refused("demote", x, 1, () -> x.demote(6));
        refusedInsert("insert first", x, 1, () -> x.insert(5, 2, 3));
        refuseInsert("insert last", x, 1, 6, 3);
        sentence("a level of 6 is none that is greater");
        due("move ahead", x.move(7, 5, 0) + " " + x.heading(5, 0), "5 6");
        due("move behind", x.move(5, 7, 1) + " " + x.heading(7, 0), "7 6");
        due("insert last", insert(x, "x", 4, 3) + " " + x.heading(8, 0), "8 6");
        due("demote", keeper("*a;**b;***c;****d;*****e;*****f;").demote(5), 6);

        sentence("2 the target is in the branch");
        Keeper y = rich(TREE);
        for (int way = 0; way <= 3; way++) {
            int w = way;
            refused("itself", y, 2, () -> y.move(1, 1, w));
            refused("the last of the branch", y, 2, () -> y.move(1, 3, w));
        }
        due("directly ahead of the branch", y.move(1, 0, 2), 1);
        due("directly behind the branch", y.move(1, 4, 0), 1);

        sentence("3 there are 60 headings");
        Keeper full = rich(CHAIN + many(54));
        refusedInsert("insert", full, 3, () -> full.insert(NONE, 3, 3));
        full.remove(59);
        due("59", insert(full, "x", 0, 0), 0);

        sentence("4 the level is 1");
        Keeper z = rich(TREE);
        refused("the first", z, 4, () -> z.promote(0));
        refused("another one", z, 4, () -> z.promote(5));
        due("2", z.promote(6), 1);

        sentence("5 no sibling is ahead of it");
        refused("the first heading", z, 5, () -> z.demote(0));
        refused("the first child", z, 5, () -> z.demote(1));
        refused("the first child behind deeper ones", z, 5, () -> z.demote(2));
        due("one sibling", z.demote(4), 3);
        emptyReasons();
    }

    private static void emptyReasons() {
        sentence("6 it has no children (without a heading: there are no headings)");
        Keeper x = rich(TREE);
        refused("fold", x, 6, () -> x.fold(6, true));
        refused("fold one with a sibling behind", x, 6, () -> x.fold(2, true));
        refused("sort", x, 6, () -> x.sort(6, 0));
        Keeper y = rich(TREE);
        y.remove(0);
        y.remove(0);
        refused("sort without a heading, by names", y, 6, () -> y.sort(NONE, 0));
        refused("sort without a heading, by branches", y, 6, () -> y.sort(NONE, 1));
        refused("sort without a heading, turned round", y, 6, () -> y.sort(NONE, 2));
        due("one child", keeper("*a;**b;").fold(0, true), 1);
        due("one heading", keeper("*a;").sort(NONE, 0), 0);

        sentence("7 it is so already");
        Keeper z = rich("*a folded;**b;*c plain;");
        refused("folded", z, 7, () -> z.fold(0, true));
        refused("unfolded", z, 7, () -> z.fold(1, false));
        refused("plain", z, 7, () -> z.setPlain(2, true));
        refused("not plain", z, 7, () -> z.setPlain(1, false));
        due("the other way round", z.fold(0, false) + " " + z.setPlain(2, false) + " " + z.setPlain(1, true), "3 2 1");
    }

    private static void firstReasons() {
        sentence("the first reason that applies of those listed");
        Keeper full = keeper(CHAIN + many(54));
        refuseInsert("insert: 3 ahead of 1", full, 3, 5, 2);
        refused("move: 2 ahead of 1", full, 2, () -> full.move(0, 5, 3));
        Keeper x = keeper(CHAIN + "******g;");
        refused("demote: 5 ahead of 1", x, 5, () -> x.demote(5));
        Keeper y = keeper("*a folded;*b;");
        refused("fold: 7 ahead of 6", y, 7, () -> y.fold(0, true));
        due("unfold: no 6", y.fold(0, false), 2);
    }

    private static void undoing() {
        sentence("the latest 8 acts that were done can be undone");
        Keeper x = keeper(many(12));
        for (int i = 1; i <= 9; i++) {
            x.remove(0);
            due("acts", x.size(6), Math.min(i, 8));
        }
        for (int i = 7; i >= 0; i--) {
            due("undone", x.undo() + " " + x.size(0) + " " + x.size(6), i + " " + (11 - i) + " " + i);
        }
        fails("no ninth", x, NO_STATE, x::undo);
        due("the first of nine stays done", x.size(0), 11);
        x.remove(0);
        due("another act behind that", x.undo() + " " + x.size(0), "0 11");

        sentence("also if nothing is different by them");
        Keeper y = keeper("*a;**b;*c;");
        String before = row(y) + styles(y);
        due("they are done", y.foldTo(6) + " " + y.sort(NONE, 0) + " " + y.move(1, 0, 2) + " " + y.setStyle(1, 0, 1) + " " + y.setMode(1, false, false), "3 0 1 0 0");
        due("nothing is different", row(y) + styles(y), before);
        due("and counted", y.size(6) + " " + y.account(0), "5 5");
        due("and undone", y.undo() + " " + y.undo() + " " + y.undo() + " " + y.undo() + " " + y.undo(), "4 3 2 1 0");

        sentence("each act that was done can be undone");
        eachUndone();
    }

    private static void eachUndone() {
        undone("insert", k -> insert(k, "x", 1, 2));
        undone("insert at the end", k -> insert(k, "x", NONE, 0));
        undone("remove", k -> k.remove(1));
        undone("remove all", k -> k.remove(0));
        undone("dissolve", k -> k.dissolve(0));
        undone("move up", k -> k.move(5, 1, 0));
        undone("move down", k -> k.move(1, 5, 3));
        undone("promote", k -> k.promote(1));
        undone("demote", k -> k.demote(5));
        undone("fold", k -> k.fold(1, true));
        undone("unfold", k -> k.fold(5, false));
        undone("foldTo", k -> k.foldTo(1));
        undone("sort by names", k -> k.sort(NONE, 0));
        undone("sort by branches", k -> k.sort(0, 1));
        undone("sort turned round", k -> k.sort(NONE, 2));
        undone("setPlain", k -> k.setPlain(0, true));
        undone("not plain", k -> k.setPlain(2, false));
        undone("setStyle", k -> k.setStyle(6, 5, 99));
        undone("setMode", k -> k.setMode(6, true, true));
        undone("a command", k -> play(k, "remove 0;"));
    }

    private interface Act {
        int of(Keeper x);
    }

    private static void undone(String what, Act act) {
        Keeper x = keeper("style 1 upper from 3 on;*a;**b;***c plain;***d;**e;*f folded;**g;");
        x.setStyle(2, 4, 7);
        String before = row(x) + styles(x) + x.account(0);
        due(what + " is done", act.of(x) >= 0 && x.size(6) == 2, true);
        due(what + " is undone", x.undo() + row(x) + styles(x) + (x.account(0) - 1), 1 + before);
        due(what + " leaves the act ahead", x.undo() + " " + styles(x), "0 1,3,0,1" + FIRST_STYLES.substring(7));
    }

    // ---- section 5

    private static void readTexts() {
        buffer();
        tokens();
        grammar();
        styleStatements();
        scripts();
        errors();
    }

    private static String loaded(String text) {
        Keeper x = new Keeper();
        int headings = load(x, text);
        return headings == NONE ? "error " + error(x) : headings + ": " + row(x);
    }

    private static String played(String text) {
        Keeper x = keeper(TREE);
        int done = play(x, text);
        return done == NONE ? "error " + error(x) : done + ": " + row(x);
    }

    private static void buffer() {
        sentence("a buffer of at most 700 bytes");
        due("an outline of 700 bytes", loaded("*a;" + " ".repeat(694) + "*b;"), "2: 1a 1b");
        due("a script of 700 bytes", played(" ".repeat(691) + "remove 0;"), "1: 1f 2g");
        Keeper x = new Keeper();
        text(x, " ".repeat(700));
        fails("a byte more", x, NO_STATE, () -> x.append(0, 0, 0, 0, 0x20));
        due("700 spaces", x.load() + " " + x.size(5), "0 0");
        due("there is room again", x.append(-1, -1, -1, -1, -1), 20);
    }

    private static void tokens() {
        sentence("words (maximal runs of the letters a to z)");
        due("no word ends in a run", loaded("*a plainfolded;"), "error 1 at 3");
        due("a run of 9 letters is no name and a word", loaded("*abcdefghplain;"), "error 1 at 1");
        due("a and z", loaded("*az;*za;"), "2: 1az 1za");
        due("a capital letter ends a word", loaded("*aB;"), "error 1 at 2");

        sentence("numbers (maximal runs of the digits 0 to 9, of any length)");
        due("leading zeros", loaded("style" + "0".repeat(300) + "6upper from" + "0".repeat(300) + "99;*a;"), "1: 1a");
        due("all digits", styles(keeper("style1upper from 02;style2upper from 34;style3upper from 56;style4upper from 78;style5upper from 9;style6upper from 1;")), "1,2,0,0 1,34,0,0 1,56,0,0 1,78,0,0 1,9,0,0 1,1,0,0");
        due("two runs with a space", loaded("style 1 upper from 1 0;"), "error 1 at 21");
        due("what 2 to the power of 32 would hide", loaded("style 4294967298 upper;"), "error 2 at 6");
        due("what 2 to the power of 64 would hide", loaded("style 18446744073709551617 upper;"), "error 2 at 6");
        due("600 digits", played("remove " + "9".repeat(600) + ";"), "error 2 at 7");
        due("600 zeros", played("remove " + "0".repeat(600) + ";"), "1: 1f 2g");
        due("a zero at the end of a long run", played("remove 1" + "0".repeat(32) + ";"), "error 2 at 7");

        sentence("the bytes * and ; one by one");
        due("three in a row", loaded("*a;**b;***c;"), "3: 1a 2b 3c");
        due("with spaces between them", loaded("*a;* *b;* \n * *c ;"), "3: 1a 2b 3c");
        due("two semicolons", loaded("*a;;"), "error 1 at 3");

        sentence("spaces (byte 32) and line feeds (byte 10) may stand ahead of tokens, between them and behind the last one");
        due("everywhere", loaded(" \n * \n a \n plain \n folded \n ; \n style \n 1 \n upper \n from \n 2 \n own \n on \n ; \n "), "1: 1a!+");
        due("nowhere", loaded("*a;style1upper;"), "1: 1a");
        due("alone", loaded(" \n\n "), "0: ");
        for (String sign : new String[] {"\t", "\r", "\u000b", "\u001f", "!", "\u0009", "\u00a0", "\u0001", "\u007f", "\u00ff"}) {
            due("another byte ahead", loaded(sign + "*a;"), "error 1 at 0");
            due("another byte between", loaded("*" + sign + "a;"), "error 1 at 1");
            due("another byte behind", loaded("*a;" + sign), "error 1 at 3");
            due("another byte in a script", played("sort" + sign + "0;"), "error 1 at 4");
        }

        sentence("they are needed only between two words and between two numbers");
        due("two words", loaded("*aplain;"), "1: 1aplain");
        due("a word and a number", loaded("style2upper from3own;"), "0: ");
        due("two numbers", played("move 10first;"), "error 1 at 7");
        due("two numbers apart", played("move1 0first;"), "1: 1a 2b 3c 3d 2e 1f 2g");
    }

    private static void grammar() {
        sentence("outline = { statement \";\" }, none, too");
        due("none", loaded(""), "0: ");
        due("without a semicolon", loaded("*a"), "error 1 at 2");
        due("a semicolon alone", loaded(";"), "error 1 at 0");
        due("many", loaded(many(60) + "style1upper;".repeat(43)).substring(0, 3), "60:");

        sentence("\"*\" { \"*\" } NAME [ \"plain\" ] [ \"folded\" ]");
        due("neither, each, both", loaded("*a;*b plain;*c folded;*d plain folded;"), "4: 1a 1b! 1c+ 1d!+");
        due("in the other order", loaded("*d folded plain;"), "error 1 at 10");
        due("plain twice", loaded("*d plain plain;"), "error 1 at 9");
        due("folded twice", loaded("*d folded folded;"), "error 1 at 10");
        due("something else", loaded("*d own;"), "error 1 at 3");
        due("a number", loaded("*d 1;"), "error 1 at 3");
        due("a number as a name", loaded("*1;"), "error 1 at 1");
        due("no name", loaded("*;"), "error 1 at 1");
        due("an asterisk behind the name", loaded("*a*;"), "error 1 at 2");

        sentence("a NAME is any word of at most 8 letters");
        due("words of the language", loaded("*plain plain;*folded folded;*style;*from;*own;*on;*decimal;*none;"), "8: 1plain! 1folded+ 1style 1from 1own 1on 1decimal 1none");
        due("8 letters", loaded("*dissolve;"), "1: 1dissolve");
        due("9 letters", loaded("*dissolved;"), "error 1 at 1");
        due("600 letters", loaded("*" + "a".repeat(600) + ";"), "error 1 at 1");

        sentence("the level of a heading is the number of its asterisks");
        due("1 to 6", loaded(CHAIN), "6: 1a 2b 3c 4d 5e 6f");
        due("7", loaded(CHAIN + "*******g;"), "error 2 at 39");
    }

    private static void styleStatements() {
        sentence("\"style\" LEVEL style [ \"from\" START ] [ \"own\" ] [ \"on\" ]");
        due("each way to leave out", styles(keeper("style1upper;style2upper from 2;style3upper own;style4upper on;style5upper from 2 own;style6upper from 2 on;")), "1,1,0,0 1,2,0,0 1,1,1,0 1,1,0,1 1,2,1,0 1,2,0,1");
        due("own and on", styles(keeper("style1upper own on;style2upper from 9 own on;")).substring(0, 15), "1,1,1,1 1,9,1,1");
        due("on ahead of own", loaded("style 1 upper on own;"), "error 1 at 17");
        due("own ahead of from", loaded("style 1 upper own from 1;"), "error 1 at 18");
        due("own twice", loaded("style 1 upper own own;"), "error 1 at 18");
        due("on twice", loaded("style 1 upper on on;"), "error 1 at 17");
        due("from without a number", loaded("style 1 upper from own;"), "error 1 at 19");
        due("a number without from", loaded("style 1 upper 5;"), "error 1 at 14");
        due("no level", loaded("style upper;"), "error 1 at 6");
        due("no style", loaded("style 1;"), "error 1 at 7");
        due("no style but a number", loaded("style 1 0;"), "error 1 at 8");

        sentence("style = \"decimal\" | \"upper\" | \"lower\" | \"roman\" | \"small\" | \"none\"");
        due("each", styles(keeper("style1decimal;style2upper;style3lower;style4roman;style5small;style6none;")), "0,1,0,0 1,1,0,0 2,1,0,0 3,1,0,0 4,1,0,0 5,1,0,0");
        for (String word : new String[] {"own", "decima", "decimals", "uppe", "plain", "from", "ahead", "style"}) {
            due("no style: " + word, loaded("style1 " + word + ";"), "error 1 at 7");
        }

        sentence("LEVEL 1 to 6, START 1 to 99");
        due("within", loaded("style 1 upper from 1;style 6 upper from 99;"), "0: ");
        due("LEVEL 0", loaded("style 0 upper;"), "error 2 at 6");
        due("LEVEL 7", loaded("style 7 upper;"), "error 2 at 6");
        due("START 0", loaded("style 1 upper from 0;"), "error 2 at 19");
        due("START 100", loaded("style 1 upper from 100;"), "error 2 at 19");

        sentence("a style statement sets all of its level; what is left out is as at first; of several the last one counts");
        due("of several", styles(keeper("style1roman from 5 own on;style2small own;style1upper;")), "1,1,0,0 4,1,1,0" + FIRST_STYLES.substring(15));
        due("of several, the START alone", styles(keeper("style1roman own on;style1upper from 5;")), "1,5,0,0" + FIRST_STYLES.substring(7));
        Keeper x = keeper("style 6 roman from 5 own on;");
        due("those of an earlier text are gone", load(x, "style 5 none;") + " " + styles(x), "0 0,1,0,0 0,1,0,0 0,1,0,0 0,1,0,0 5,1,0,0 0,1,0,0");
        due("behind the headings too", numbers(keeper("*a;*b;style1upper from 26;")), "Z AA");
    }

    private static void scripts() {
        sentence("script = { command \";\" }, none, too");
        due("none", played(""), "0: 1a 2b 3c 3d 2e 1f 2g");
        due("without a semicolon", played("sort 0"), "error 1 at 6");
        due("a semicolon alone", played(";"), "error 1 at 0");
        due("40 commands", played("fold0;unfold0;".repeat(20)).substring(0, 3), "40:");
        due("41 commands", played("fold0;unfold0;".repeat(20) + "fold0;"), "error 4 at 280");

        sentence("in a script a PLACE is 0 to 59");
        due("59", play(keeper(many(60)), "remove 59;"), 1);
        due("59 twice", play(keeper(many(60)), "move 59 59 ahead;"), 0);
        due("60", played("remove 60;"), "error 2 at 7");
        due("60 as the second", played("move 0 60 ahead;"), "error 2 at 7");
        due("0", played("move 5 0 ahead;"), "1: 1f 2g 1a 2b 3c 3d 2e");

        sentence("the commands are done as these acts");
        due("move ahead", played("move 6 1 ahead;"), "1: 1a 2g 2b 3c 3d 2e 1f");
        due("move behind", played("move 6 1 behind;"), "1: 1a 2b 3c 3d 2g 2e 1f");
        due("move first", played("move 6 1 first;"), "1: 1a 2b 3g 3c 3d 2e 1f");
        due("move last", played("move 6 1 last;"), "1: 1a 2b 3c 3d 3g 2e 1f");
        due("promote", played("promote 1;"), "1: 1a 1b 2c 2d 2e 1f 2g");
        due("demote", played("demote 4;"), "1: 1a 2b 3c 3d 3e 1f 2g");
        due("remove", played("remove 1;"), "1: 1a 2e 1f 2g");
        due("dissolve", played("dissolve 1;"), "1: 1a 2c 2d 2e 1f 2g");
        due("fold", played("fold 1;"), "1: 1a 2b+ 3c 3d 2e 1f 2g");
        due("unfold", played("fold 1;fold 0;unfold 1;"), "3: 1a+ 2b 3c 3d 2e 1f 2g");
        Keeper x = keeper("*z;**b;***x;**a;***w;***v;*y;");
        due("sort by names", play(x, "sort 0;") + " " + row(x), "1 1z 2a 3w 3v 2b 3x 1y");
        for (String word : new String[] {"insert", "undo", "save", "style", "ahead", "mov", "moves", "a", "unfoldd"}) {
            due("no command: " + word, played(word + " 0;"), "error 1 at 0");
        }

        sentence("each command is an act of its own");
        Keeper y = keeper(TREE);
        due("three", play(y, "promote 1;fold 0;fold 1;"), 1);
        due("done and refused", accounts(y) + " " + y.size(6), "1 0 0 0 0 0 1 0 1");
        stops();
    }

    private static void stops() {
        sentence("a script stops at the first command that is refused");
        Keeper x = keeper(TREE);
        due("done", play(x, "remove 4;promote 0;remove 0;"), 1);
        due("the others are not", row(x) + " " + accounts(x), "1a 2b 3c 3d 1f 2g 1 0 0 0 1 0 0 0");
        due("at the first one", play(x, "demote 0;remove 0;") + " " + row(x) + " " + accounts(x), "0 1a 2b 3c 3d 1f 2g 1 0 0 0 1 1 0 0");
        due("at the last one", play(x, "fold 0;fold 0;") + " " + accounts(x), "1 2 0 0 0 1 1 0 1");
        stopsAt("move", "move 0 5 first", 2);
        stopsAt("move", "move 7 5 first", 1);
        stopsAt("promote", "promote 7", 4);
        stopsAt("demote", "demote 5", 5);
        stopsAt("demote", "demote 6", 1);
        stopsAt("fold", "fold 0", 7);
        stopsAt("fold", "fold 7", 6);
        stopsAt("unfold", "unfold 1", 7);
        stopsAt("sort", "sort 7", 6);

        sentence("or that has a PLACE without a heading (this one is no refusal)");
        Keeper y = keeper(TREE);
        for (String command : new String[] {"move 7 0 ahead", "move 0 7 ahead", "promote 7", "demote 7", "remove 7", "dissolve 7", "fold 7", "unfold 7", "sort 7", "remove 59"}) {
            due(command, play(y, command + ";remove 0;") + " " + accounts(y) + " " + y.size(0) + " " + error(y), "0 0 0 0 0 0 0 0 0 7 0 at -1");
        }
        due("behind one that is done", play(y, "remove 6;remove 6;remove 0;") + " " + row(y), "1 1a 2b 3c 3d 2e 1f");
        due("without headings", play(new Keeper(), "sort 0;"), 0);

        sentence("a script that has an error is not done at all");
        Keeper z = keeper(TREE);
        due("an error at its end", play(z, "remove 0;remove 0;x") + " " + row(z) + " " + accounts(z) + " " + z.size(6), "-1 1a 2b 3c 3d 2e 1f 2g 0 0 0 0 0 0 0 0 0");
        due("a 41st command", play(z, "remove0;".repeat(41)) + " " + error(z) + " " + z.size(0), "-1 4 at 320 7");
    }

    private static void stopsAt(String what, String command, int reason) {
        Keeper x = keeper(CHAIN.replace("*a", "*a folded") + "******g;*h;");
        due(what + " for " + reason, play(x, "promote 6;demote 6;" + command + ";remove 0;") + " " + x.size(0) + " " + x.account(reason) + " " + x.account(0), "2 8 1 2");
    }

    private static void errors() {
        sentence("the text is read up to the first token that is wrong");
        due("the first of two", loaded("*a;***b;*******;"), "error 3 at 5");
        due("of two of one kind", loaded("*a;style 0 upper;style 7 upper;"), "error 2 at 9");
        due("a later byte that belongs to no token", loaded("**a;#"), "error 3 at 1");

        sentence("the error position is the index of its first byte");
        due("the first byte of a word", loaded("*a   plains;"), "error 1 at 5");
        due("the first byte of a number", loaded("style   0077 upper;"), "error 2 at 8");
        due("0", loaded("a;"), "error 1 at 0");
        due("699", loaded(" ".repeat(699) + "a"), "error 1 at 699");

        sentence("or the length of the text if the text ends too early");
        due("ends in a word", loaded("*a"), "error 1 at 2");
        due("ends in spaces", loaded("*a \n "), "error 1 at 5");
        due("ends in an asterisk", loaded("*"), "error 1 at 1");
        due("ends behind each token of a style", loaded("style") + loaded("style 1") + loaded("style 1 upper") + loaded("style 1 upper from") + loaded("style 1 upper from 1") + loaded("style 1 upper own") + loaded("style 1 upper on"),
            "error 1 at 5error 1 at 7error 1 at 13error 1 at 18error 1 at 20error 1 at 17error 1 at 16");
        due("ends behind each token of a command", played("move") + played("move 0") + played("move 0 1") + played("move 0 1 last") + played("fold") + played("fold 0"),
            "error 1 at 4error 1 at 6error 1 at 8error 1 at 13error 1 at 4error 1 at 6");
        due("700 bytes", loaded("*" + " ".repeat(699)), "error 1 at 700");

        sentence("2: the seventh asterisk of a heading");
        due("where 6 are allowed", loaded("*a;**b;***c;****d;*****e;*******f;"), "error 2 at 31");
        due("where 7 would be one greater", loaded(CHAIN + "*******g;"), "error 2 at 39");

        sentence("3: an asterisk by which the level would be two greater, or 2 for the first heading");
        due("the first heading", loaded("**a;"), "error 3 at 1");
        due("the first heading behind a style", loaded("style1upper;**a;"), "error 3 at 13");
        due("the asterisk alone is enough", loaded("*a;***"), "error 3 at 5");
        due("behind level 4", loaded("*a;**b;***c;****d;******e;"), "error 3 at 23");
        due("one greater", loaded("*a;**"), "error 1 at 5");
        due("the heading ahead of it, not the deepest", loaded("*a;**b;*c;***d;"), "error 3 at 12");
        fullErrors();
    }

    private static void fullErrors() {
        sentence("4: the first asterisk of a 61st heading");
        due("alone", loaded(many(60) + "*"), "error 4 at 180");
        due("behind spaces and a style", loaded(many(60) + "style1upper;  *a;"), "error 4 at 194");
        due("a style behind the 60th", loaded(many(60) + "style1upper;").substring(0, 3), "60:");
        due("something else behind the 60th", loaded(many(60) + "a;"), "error 1 at 180");
        due("errors ahead of it", loaded(many(59) + "**b;***c;**d;*").substring(0, 11), "error 4 at ");

        sentence("4: the first word of a 41st command");
        due("each command", played(MANY_COMMANDS + "move") + played(MANY_COMMANDS + "promote") + played(MANY_COMMANDS + "demote") + played(MANY_COMMANDS + "remove")
            + played(MANY_COMMANDS + "dissolve") + played(MANY_COMMANDS + "fold") + played(MANY_COMMANDS + "unfold") + played(MANY_COMMANDS + "sort"), "error 4 at 240".repeat(8));
        due("the 40th", played(MANY_COMMANDS).substring(0, 2), "1:");
        due("a wrong 40th", played(MANY_COMMANDS.substring(6) + "walk 0;fold 0;"), "error 1 at 234");

        sentence("the error code is the least one that applies");
        due("2 ahead of 3", loaded("*a;**b;***c;****d;*****e;*******"), "error 2 at 31");
        due("1 ahead of 4 with a word", played(MANY_COMMANDS + "walk"), "error 1 at 240");
        due("1 ahead of 4 with a semicolon", played(MANY_COMMANDS + ";"), "error 1 at 240");
        due("1 ahead of 2", played("fold 0 99;"), "error 1 at 7");
        due("4 ahead of what comes later", played(MANY_COMMANDS + "fold 99;"), "error 4 at 240");
    }

    // ---- section 6

    private static void exceptions() {
        sentence("a method that throws an exception changes nothing");
        whatThrows();
        whatThrowsOfActs();
        fullBuffer();
        nothingThere();
        severalExceptions();
        exceptionsAheadOfReasons();
        missingPlaces();
    }

    private static void whatThrows() {
        Keeper x = rich(TREE);
        fails("size", x, NO_ARGUMENT, () -> x.size(9));
        fails("heading, place", x, NO_INDEX, () -> x.heading(7, 0));
        fails("heading, what", x, NO_ARGUMENT, () -> x.heading(0, 12));
        fails("letter", x, NO_INDEX, () -> x.letter(7, 0));
        fails("number", x, NO_INDEX, () -> x.number(7, 0));
        fails("style, level", x, NO_INDEX, () -> x.style(7, 0));
        fails("style, what", x, NO_ARGUMENT, () -> x.style(1, 4));
        fails("child, place", x, NO_INDEX, () -> x.child(7, 0));
        fails("child, child", x, NO_ELEMENT, () -> x.child(0, 2));
        fails("common, one", x, NO_INDEX, () -> x.common(7, 0));
        fails("common, other", x, NO_INDEX, () -> x.common(0, 7));
        fails("account", x, NO_ARGUMENT, () -> x.account(8));
        fails("whyNot, place", x, NO_INDEX, () -> x.whyNot(7, 0, 0));
        fails("whyNot, target", x, NO_INDEX, () -> x.whyNot(0, 7, 0));
        fails("whyNot, way", x, NO_ARGUMENT, () -> x.whyNot(0, 5, 4));
        fails("changedBy, place", x, NO_INDEX, () -> x.changedBy(7, 0, 0));
        fails("changedBy, target", x, NO_INDEX, () -> x.changedBy(0, 7, 0));
        fails("changedBy, way", x, NO_ARGUMENT, () -> x.changedBy(0, 5, 4));
        fails("cheapest, place", x, NO_INDEX, () -> x.cheapest(7, 1));
        fails("cheapest, level", x, NO_INDEX, () -> x.cheapest(0, 7));
        fails("wouldHide", x, NO_INDEX, () -> x.wouldHide(7));
        fails("output", x, NO_INDEX, () -> x.output(10000));
        fails("save", x, NO_INDEX, () -> x.save(2));
        fails("restore, slot", x, NO_INDEX, () -> x.restore(2));
        fails("restore, nothing there", x, NO_STATE, () -> x.restore(0));
    }

    private static void whatThrowsOfActs() {
        Keeper x = rich(TREE);
        fails("insert, target", x, NO_INDEX, () -> x.insert(7, 0, 1));
        fails("insert, way", x, NO_ARGUMENT, () -> x.insert(0, 4, 1));
        fails("insert, bytes", x, NO_ARGUMENT, () -> x.insert(0, 0, 9));
        fails("insert, no letter", x, NO_ARGUMENT, () -> x.insert(0, 0, 4));
        fails("remove", x, NO_INDEX, () -> x.remove(7));
        fails("dissolve", x, NO_INDEX, () -> x.dissolve(7));
        fails("move, place", x, NO_INDEX, () -> x.move(7, 0, 0));
        fails("move, target", x, NO_INDEX, () -> x.move(0, 7, 0));
        fails("move, way", x, NO_ARGUMENT, () -> x.move(0, 5, 4));
        fails("promote", x, NO_INDEX, () -> x.promote(7));
        fails("demote", x, NO_INDEX, () -> x.demote(7));
        fails("fold", x, NO_INDEX, () -> x.fold(7, true));
        fails("foldTo", x, NO_INDEX, () -> x.foldTo(7));
        fails("sort, place", x, NO_INDEX, () -> x.sort(7, 0));
        fails("sort, by", x, NO_ARGUMENT, () -> x.sort(0, 3));
        fails("setPlain", x, NO_INDEX, () -> x.setPlain(7, true));
        fails("setStyle, level", x, NO_INDEX, () -> x.setStyle(7, 0, 1));
        fails("setStyle, style", x, NO_ARGUMENT, () -> x.setStyle(1, 6, 1));
        fails("setStyle, start", x, NO_ARGUMENT, () -> x.setStyle(1, 0, 100));
        fails("setMode", x, NO_INDEX, () -> x.setMode(7, true, true));
    }

    private static void fullBuffer() {
        Keeper x = rich(TREE);
        text(x, "y".repeat(685));
        due("four bytes of room", x.size(5), 696);
        fails("append", x, NO_STATE, () -> x.append(0x61616161, 0, 0, 0, 0x61));
        due("four bytes", x.append(0, 0x00006161, 0, 0x61000061, 0), 700);
    }

    private static void nothingThere() {
        Keeper x = rich(TREE);
        x.undo();
        x.undo();
        x.undo();
        fails("undo", x, NO_STATE, x::undo);
        Keeper y = keeper(TREE);
        fails("output, not written yet", y, NO_INDEX, () -> y.output(0));
        fails("insert, an empty buffer", y, NO_ARGUMENT, () -> y.insert(0, 0, 1));
    }

    private static void severalExceptions() {
        sentence("if several exceptions apply, the one that comes first in the method's list is thrown");
        Keeper x = rich(TREE);
        fails("heading", x, NO_INDEX, () -> x.heading(7, 12));
        fails("style", x, NO_INDEX, () -> x.style(7, 4));
        fails("child", x, NO_INDEX, () -> x.child(7, -1));
        fails("whyNot, place", x, NO_INDEX, () -> x.whyNot(7, 0, 4));
        fails("whyNot, target", x, NO_INDEX, () -> x.whyNot(0, 7, 4));
        fails("changedBy, place", x, NO_INDEX, () -> x.changedBy(7, 0, 4));
        fails("changedBy, target", x, NO_INDEX, () -> x.changedBy(0, 7, 4));
        fails("insert, way", x, NO_INDEX, () -> x.insert(7, 4, 1));
        fails("insert, bytes", x, NO_INDEX, () -> x.insert(7, 0, 9));
        fails("insert, no letter", x, NO_INDEX, () -> x.insert(7, 0, 4));
        fails("move, place", x, NO_INDEX, () -> x.move(7, 0, 4));
        fails("move, target", x, NO_INDEX, () -> x.move(0, 7, 4));
        fails("sort", x, NO_INDEX, () -> x.sort(7, 3));
        fails("setStyle, style", x, NO_INDEX, () -> x.setStyle(7, 6, 1));
        fails("setStyle, start", x, NO_INDEX, () -> x.setStyle(0, 0, 0));
        Keeper y = new Keeper();
        fails("restore", y, NO_INDEX, () -> y.restore(2));
    }

    private static void exceptionsAheadOfReasons() {
        sentence("exceptions come ahead of reasons");
        Keeper full = keeper(CHAIN + many(54));
        text(full, "x*");
        fails("insert where 60 are, way", full, NO_ARGUMENT, () -> full.insert(0, 4, 1));
        fails("insert where 60 are, bytes", full, NO_ARGUMENT, () -> full.insert(0, 0, 0));
        fails("insert where 60 are, no letter", full, NO_ARGUMENT, () -> full.insert(0, 0, 2));
        fails("insert where 60 are, too few bytes", full, NO_ARGUMENT, () -> full.insert(0, 0, 3));
        fails("insert where 60 are, target", full, NO_INDEX, () -> full.insert(60, 0, 1));
        fails("insert above level 6", full, NO_ARGUMENT, () -> full.insert(5, 2, 2));
        fails("move into its branch", full, NO_ARGUMENT, () -> full.move(0, 5, 4));
        fails("move above level 6", full, NO_ARGUMENT, () -> full.move(6, 5, -1));
        fails("whyNot into its branch", full, NO_ARGUMENT, () -> full.whyNot(0, 5, 4));
        fails("changedBy into its branch", full, NO_ARGUMENT, () -> full.changedBy(0, 5, -1));
        fails("sort without children", full, NO_ARGUMENT, () -> full.sort(5, 3));
        Keeper empty = new Keeper();
        fails("sort without headings", empty, NO_ARGUMENT, () -> empty.sort(NONE, 3));
    }

    private static void missingPlaces() {
        sentence("an IndexOutOfBoundsException for a place without a heading");
        int[] places = {-2, NONE, 3, 59, 60, LEAST, GREATEST};
        Keeper x = keeper("*a;**b;*c;");
        for (int place : places) {
            needsHeading(x, place);
            needsHeadingOfActs(x, place);
        }
        Keeper empty = new Keeper();
        needsHeading(empty, 0);
        needsHeadingOfActs(empty, 0);

        sentence("for a level that is not 1 to 6");
        for (int level : WRONG_LEVELS) {
            fails("style of " + level, x, NO_INDEX, () -> x.style(level, 0));
            fails("cheapest to " + level, x, NO_INDEX, () -> x.cheapest(0, level));
            fails("foldTo " + level, x, NO_INDEX, () -> x.foldTo(level));
            fails("setStyle of " + level, x, NO_INDEX, () -> x.setStyle(level, 0, 1));
            fails("setMode of " + level, x, NO_INDEX, () -> x.setMode(level, false, false));
        }
        Keeper y = keeper(TREE);
        for (int i = 1; i <= 6; i++) {
            due("the level " + i, y.style(i, 0) + y.foldTo(i) * 0 + y.setStyle(i, 0, 1) + y.setMode(i, false, false), 0);
        }

        sentence("and for a saved state that does not exist");
        for (int slot : new int[] {-1, 2, LEAST, GREATEST}) {
            fails("save in " + slot, y, NO_INDEX, () -> y.save(slot));
            fails("restore of " + slot, y, NO_INDEX, () -> y.restore(slot));
        }
        due("0 and 1", y.save(0) + " " + y.save(1) + " " + y.restore(0) + " " + y.restore(1), "7 7 7 7");
    }

    private static void needsHeading(Keeper x, int place) {
        fails("heading of " + place, x, NO_INDEX, () -> x.heading(place, 0));
        fails("letter of " + place, x, NO_INDEX, () -> x.letter(place, 0));
        fails("number of " + place, x, NO_INDEX, () -> x.number(place, 0));
        fails("common of " + place, x, NO_INDEX, () -> x.common(place, 0));
        fails("common with " + place, x, NO_INDEX, () -> x.common(0, place));
        fails("whyNot of " + place, x, NO_INDEX, () -> x.whyNot(place, 0, 0));
        fails("whyNot to " + place, x, NO_INDEX, () -> x.whyNot(0, place, 0));
        fails("changedBy of " + place, x, NO_INDEX, () -> x.changedBy(place, 0, 0));
        fails("changedBy to " + place, x, NO_INDEX, () -> x.changedBy(0, place, 0));
        fails("cheapest of " + place, x, NO_INDEX, () -> x.cheapest(place, 1));
        fails("wouldHide of " + place, x, NO_INDEX, () -> x.wouldHide(place));
        if (place != NONE) {
            fails("child of " + place, x, NO_INDEX, () -> x.child(place, 0));
        }
    }

    private static void needsHeadingOfActs(Keeper x, int place) {
        fails("remove of " + place, x, NO_INDEX, () -> x.remove(place));
        fails("dissolve of " + place, x, NO_INDEX, () -> x.dissolve(place));
        fails("move of " + place, x, NO_INDEX, () -> x.move(place, 0, 0));
        fails("move to " + place, x, NO_INDEX, () -> x.move(0, place, 0));
        fails("promote of " + place, x, NO_INDEX, () -> x.promote(place));
        fails("demote of " + place, x, NO_INDEX, () -> x.demote(place));
        fails("fold of " + place, x, NO_INDEX, () -> x.fold(place, true));
        fails("unfold of " + place, x, NO_INDEX, () -> x.fold(place, false));
        fails("setPlain of " + place, x, NO_INDEX, () -> x.setPlain(place, true));
        fails("not plain of " + place, x, NO_INDEX, () -> x.setPlain(place, false));
        if (place != NONE) {
            fails("sort of " + place, x, NO_INDEX, () -> x.sort(place, 0));
            fails("insert to " + place, x, NO_INDEX, () -> x.insert(place, 0, 1));
        }
    }

    public static void main(String[] args) {
        test("what it is", SectionTests::whatItIs);
        test("section 1", SectionTests::headings);
        test("section 2", SectionTests::numbering);
        test("section 3", SectionTests::moves);
        test("section 4", SectionTests::acts);
        test("section 5", SectionTests::readTexts);
        test("section 6", SectionTests::exceptions);
        end();
    }
}
