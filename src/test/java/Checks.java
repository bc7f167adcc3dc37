import java.util.ArrayList;
import java.util.List;
import java.util.NoSuchElementException;

/**
 * What the tests have in common: a keeper that remembers its calls, and what can be seen of it.
 *
 * No keeper of a test gets more than the 512 calls that the document allows: what is seen of one is asked of
 * twins, new keepers that have the same calls behind them.
 */
abstract class Checks {
    static final int MOST_CALLS = 512;
    static final int NONE = OutlineKeeper.NONE;
    static final int LEAST = Integer.MIN_VALUE;
    static final int GREATEST = Integer.MAX_VALUE;
    static final Class<?> NO_INDEX = IndexOutOfBoundsException.class;
    static final Class<?> NO_ARGUMENT = IllegalArgumentException.class;
    static final Class<?> NO_STATE = IllegalStateException.class;
    static final Class<?> NO_ELEMENT = NoSuchElementException.class;
    static final int[] WRONG_LEVELS = {0, 7, -1, LEAST, GREATEST};

    static final String TREE = "*a;**b;***c;***d;**e;*f;**g;";
    static final String CHAIN = "*a;**b;***c;****d;*****e;******f;";
    static final String FIRST_STYLES = "0,1,0,0 0,1,0,0 0,1,0,0 0,1,0,0 0,1,0,0 0,1,0,0";

    private static int checks = 0;
    private static int wrong = 0;
    private static int checksBehindSentence = 1;
    private static String place = "";
    private static String sentence = "";

    // ---- checks

    /** Begins a test of its own: of the sentence of the document that is told. */
    static void sentence(String told) {
        needChecks();
        sentence = told;
        checksBehindSentence = 0;
    }

    private static void needChecks() {
        if (checksBehindSentence == 0) {
            wrong++;
            System.out.println(place + ": no check for: " + sentence);
        }
    }

    static void due(String what, Object got, Object want) {
        checks++;
        checksBehindSentence++;
        if (!want.equals(got)) {
            wrong++;
            System.out.println(place + ": " + sentence + ": " + what + ": got <" + got + ">, due is <" + want + ">");
        }
    }

    /** The call has to throw this, and to change nothing that can be seen, now or later. */
    static void fails(String what, Keeper x, Class<?> due, Runnable call) {
        int before = x.calls.size();
        Class<?> got = null;
        try {
            call.run();
        } catch (RuntimeException e) {
            got = e.getClass();
        }
        due(what, got == null ? "no exception" : got.getSimpleName(), due.getSimpleName());
        due(what + " changes nothing", everything(x.calls), everything(x.calls.subList(0, before)));
    }

    interface Answering {
        int answer();
    }

    /** The act has to be refused for a reason, and to change nothing but this account. */
    static void refused(String what, Keeper x, int reason, Answering act) {
        refused(what, x, reason, act, new ArrayList<>(x.calls));
    }

    /** An insert() that is refused empties the buffer, as a find() does. */
    static void refusedInsert(String what, Keeper x, int reason, Answering act) {
        List<Call> calls = new ArrayList<>(x.calls);
        calls.add(k -> k.find(false));
        refused(what, x, reason, act, calls);
    }

    private static void refused(String what, Keeper x, int reason, Answering act, List<Call> alike) {
        Viewer was = new Viewer(alike);
        int account = was.number(k -> k.account(reason));
        due(what, act.answer(), -reason);
        Viewer is = new Viewer(x.calls);
        due(what + " is counted", is.number(k -> k.account(reason)), account + 1);
        due(what + " changes nothing else", allBut(reason, is) + future(x.calls), allBut(reason, was) + future(alike));
    }

    static void test(String name, Runnable test) {
        place = name;
        sentence = "";
        checksBehindSentence = 1;
        try {
            test.run();
        } catch (RuntimeException | Error e) {
            wrong++;
            System.out.println(place + ": " + sentence + ": threw " + e);
        }
        needChecks();
    }

    /** Ends the program; its exit code is 1 if something was wrong. */
    static void end() {
        System.out.println(checks + " checks, " + wrong + " wrong");
        if (wrong != 0) {
            System.exit(1);
        }
    }

    // ---- keepers

    interface Call {
        Object on(OutlineKeeper x);
    }

    /** Makes the calls that others made; which answers they got does not matter. */
    private static OutlineKeeper behind(List<Call> calls) {
        OutlineKeeper x = new OutlineKeeper();
        for (Call call : calls) {
            try {
                call.on(x);
            } catch (IllegalStateException | IllegalArgumentException | IndexOutOfBoundsException | NoSuchElementException e) {
                continue;
            }
        }
        return x;
    }

    /** Asks what changes nothing, of a new twin whenever one has had all its calls. */
    static final class Viewer {
        private final List<Call> ahead;
        private OutlineKeeper twin = null;
        private int left = 0;

        Viewer(List<Call> calls, Call... more) {
            ahead = new ArrayList<>(calls);
            ahead.addAll(List.of(more));
        }

        Viewer(Keeper x) {
            this(x.calls);
        }

        Object ask(Call call) {
            if (left == 0) {
                if (ahead.size() >= MOST_CALLS) {
                    throw new AssertionError("too many calls to look at the keeper");
                }
                twin = behind(ahead);
                left = MOST_CALLS - ahead.size();
            }
            left--;
            return call.on(twin);
        }

        int number(Call call) {
            return (int) ask(call);
        }
    }

    /** A keeper that remembers its calls. */
    static final class Keeper {
        private final OutlineKeeper x = new OutlineKeeper();
        final List<Call> calls = new ArrayList<>();

        private int ask(Call call) {
            return (int) askAny(call);
        }

        private Object askAny(Call call) {
            calls.add(call);
            if (calls.size() > MOST_CALLS) {
                throw new AssertionError("more than 512 calls");
            }
            return call.on(x);
        }

        int append(int a, int b, int c, int d, int e) {
            return ask(k -> k.append(a, b, c, d, e));
        }

        int load() {
            return ask(k -> k.load());
        }

        int play() {
            return ask(k -> k.play());
        }

        int errorCode() {
            return ask(k -> k.errorCode());
        }

        int errorPosition() {
            return ask(k -> k.errorPosition());
        }

        int find(boolean isNumber) {
            return ask(k -> k.find(isNumber));
        }

        int size(int what) {
            return ask(k -> k.size(what));
        }

        int heading(int place, int what) {
            return ask(k -> k.heading(place, what));
        }

        int letter(int place, int index) {
            return ask(k -> k.letter(place, index));
        }

        int number(int place, int index) {
            return ask(k -> k.number(place, index));
        }

        int style(int level, int what) {
            return ask(k -> k.style(level, what));
        }

        int child(int place, int child) {
            return ask(k -> k.child(place, child));
        }

        int common(int one, int other) {
            return ask(k -> k.common(one, other));
        }

        int visible(int index) {
            return ask(k -> k.visible(index));
        }

        int largest() {
            return ask(k -> k.largest());
        }

        int account(int what) {
            return ask(k -> k.account(what));
        }

        float share() {
            return (float) askAny(k -> k.share());
        }

        double meanLevel() {
            return (double) askAny(k -> k.meanLevel());
        }

        int whyNot(int place, int target, int way) {
            return ask(k -> k.whyNot(place, target, way));
        }

        int changedBy(int place, int target, int way) {
            return ask(k -> k.changedBy(place, target, way));
        }

        int cheapest(int place, int level) {
            return ask(k -> k.cheapest(place, level));
        }

        int wouldHide(int place) {
            return ask(k -> k.wouldHide(place));
        }

        int insert(int target, int way, int bytes) {
            return ask(k -> k.insert(target, way, bytes));
        }

        int remove(int place) {
            return ask(k -> k.remove(place));
        }

        int dissolve(int place) {
            return ask(k -> k.dissolve(place));
        }

        int move(int place, int target, int way) {
            return ask(k -> k.move(place, target, way));
        }

        int promote(int place) {
            return ask(k -> k.promote(place));
        }

        int demote(int place) {
            return ask(k -> k.demote(place));
        }

        int fold(int place, boolean isFolded) {
            return ask(k -> k.fold(place, isFolded));
        }

        int foldTo(int level) {
            return ask(k -> k.foldTo(level));
        }

        int sort(int place, int by) {
            return ask(k -> k.sort(place, by));
        }

        int setPlain(int place, boolean isPlain) {
            return ask(k -> k.setPlain(place, isPlain));
        }

        int setStyle(int level, int style, int start) {
            return ask(k -> k.setStyle(level, style, start));
        }

        int setMode(int level, boolean isOwn, boolean isOn) {
            return ask(k -> k.setMode(level, isOwn, isOn));
        }

        int write() {
            return ask(k -> k.write());
        }

        int output(int index) {
            return ask(k -> k.output(index));
        }

        int undo() {
            return ask(k -> k.undo());
        }

        int save(int slot) {
            return ask(k -> k.save(slot));
        }

        int restore(int slot) {
            return ask(k -> k.restore(slot));
        }
    }

    // ---- calls by texts

    static Keeper keeper(String outline) {
        Keeper x = new Keeper();
        text(x, outline);
        if (x.load() == NONE) {
            due("the outline " + outline, "error " + error(x), "no error");
        }
        return x;
    }

    static void text(Keeper x, String text) {
        for (int i = 0; i < text.length(); i += 20) {
            int[] p = new int[5];
            for (int j = i; j < Math.min(i + 20, text.length()); j++) {
                p[(j - i) / 4] |= text.charAt(j) << 24 - 8 * ((j - i) % 4);
            }
            x.append(p[0], p[1], p[2], p[3], p[4]);
        }
    }

    static int load(Keeper x, String text) {
        text(x, text);
        return x.load();
    }

    static int play(Keeper x, String text) {
        text(x, text);
        return x.play();
    }

    static int find(Keeper x, String text, boolean isNumber) {
        text(x, text);
        return x.find(isNumber);
    }

    static int insert(Keeper x, String name, int target, int way) {
        text(x, name);
        return x.insert(target, way, name.length());
    }

    /** An outline that has this many headings, all of level 1 with the name a. */
    static String many(int headings) {
        return "*a;".repeat(headings);
    }

    // ---- what can be seen

    private static String name(Viewer v, int place) {
        StringBuilder s = new StringBuilder();
        int letters = v.number(k -> k.heading(place, 11));
        for (int i = 0; i < letters; i++) {
            int index = i;
            s.append((char) v.number(k -> k.letter(place, index)));
        }
        return s.toString();
    }

    private static String number(Viewer v, int place) {
        StringBuilder s = new StringBuilder();
        int bytes = v.number(k -> k.heading(place, 10));
        for (int i = 0; i < bytes; i++) {
            int index = i;
            s.append((char) v.number(k -> k.number(place, index)));
        }
        return s.toString();
    }

    private static String row(Viewer v) {
        StringBuilder s = new StringBuilder();
        int headings = v.number(k -> k.size(0));
        for (int i = 0; i < headings; i++) {
            int place = i;
            s.append(i == 0 ? "" : " ").append(v.ask(k -> k.heading(place, 0))).append(name(v, i));
            s.append(v.number(k -> k.heading(place, 6)) == 1 ? "!" : "");
            s.append(v.number(k -> k.heading(place, 7)) == 1 ? "+" : "");
        }
        return s.toString();
    }

    private static String styles(Viewer v) {
        StringBuilder s = new StringBuilder();
        for (int i = 0; i < 24; i++) {
            int level = i / 4 + 1;
            int what = i % 4;
            s.append(i == 0 ? "" : what == 0 ? " " : ",").append(v.ask(k -> k.style(level, what)));
        }
        return s.toString();
    }

    private static String accounts(Viewer v) {
        StringBuilder s = new StringBuilder();
        for (int i = 0; i <= 7; i++) {
            int what = i;
            s.append(i == 0 ? "" : " ").append(v.ask(k -> k.account(what)));
        }
        return s.toString();
    }

    private static String latestOutput(Viewer v) {
        StringBuilder s = new StringBuilder();
        while (true) {
            int index = s.length();
            try {
                s.append((char) v.number(k -> k.output(index)));
            } catch (IndexOutOfBoundsException e) {
                return s.toString();
            }
        }
    }

    private static String behindAccounts(Viewer v) {
        return v.ask(k -> k.size(5)) + "|" + v.ask(k -> k.size(6)) + "|" + v.ask(k -> k.errorCode()) + "|"
            + v.ask(k -> k.errorPosition()) + "|" + latestOutput(v);
    }

    private static String all(Viewer v) {
        return row(v) + "|" + styles(v) + "|" + accounts(v) + "|" + behindAccounts(v);
    }

    private static String allBut(int account, Viewer v) {
        String[] accounts = accounts(v).split(" ");
        accounts[account] = "?";
        return row(v) + "|" + styles(v) + "|" + String.join(" ", accounts) + "|" + behindAccounts(v);
    }

    /** What undo() and restore() would bring back, and what the buffer holds. */
    private static String future(List<Call> calls) {
        StringBuilder s = new StringBuilder();
        List<Call> ahead = new ArrayList<>(calls);
        int acts = new Viewer(calls).number(k -> k.size(6));
        for (int i = 0; i < acts; i++) {
            ahead.add(k -> k.undo());
            Viewer v = new Viewer(ahead);
            s.append("|undone ").append(row(v)).append('|').append(styles(v));
        }
        for (int i = 0; i <= 1; i++) {
            int slot = i;
            try {
                new Viewer(calls).ask(k -> k.restore(slot));
            } catch (IllegalStateException e) {
                continue;
            }
            Viewer v = new Viewer(calls, k -> k.restore(slot));
            s.append("|saved ").append(slot).append(' ').append(row(v)).append('|').append(styles(v));
        }
        return s + "|" + bufferOf(calls);
    }

    private static String bufferOf(List<Call> calls) {
        Viewer loaded = new Viewer(calls, k -> k.load());
        Viewer played = new Viewer(calls, k -> k.play());
        StringBuilder s = new StringBuilder("buffer ").append(row(loaded)).append(' ').append(error(loaded));
        s.append(' ').append(row(played)).append(' ').append(error(played));
        for (int i = 1; i <= 8; i++) {
            int bytes = i;
            // Where 60 headings are, one makes room for that which tells the first bytes.
            Viewer v = new Viewer(calls, k -> k.remove(0), k -> k.insert(NONE, 0, bytes));
            int headings = v.number(k -> k.size(0));
            s.append(' ').append(headings == 0 ? "" : name(v, headings - 1));
        }
        return s.toString();
    }

    private static String everything(List<Call> calls) {
        return all(new Viewer(calls)) + future(calls);
    }

    private static String error(Viewer v) {
        return v.ask(k -> k.errorCode()) + " at " + v.ask(k -> k.errorPosition());
    }

    // ---- the same of a keeper

    static String name(Keeper x, int place) {
        return name(new Viewer(x), place);
    }

    static String number(Keeper x, int place) {
        return number(new Viewer(x), place);
    }

    /** The NUMBERs, with - for each that is empty. */
    static String numbers(Keeper x) {
        Viewer v = new Viewer(x);
        StringBuilder s = new StringBuilder();
        int headings = v.number(k -> k.size(0));
        for (int i = 0; i < headings; i++) {
            String number = number(v, i);
            s.append(i == 0 ? "" : " ").append(number.isEmpty() ? "-" : number);
        }
        return s.toString();
    }

    /** The headings: levels and names, with ! for a plain one, + for a folded one. */
    static String row(Keeper x) {
        return row(new Viewer(x));
    }

    /** Of each level the style, the START, whether it is "own", whether it is "on". */
    static String styles(Keeper x) {
        return styles(new Viewer(x));
    }

    static String accounts(Keeper x) {
        return accounts(new Viewer(x));
    }

    static String latestOutput(Keeper x) {
        return latestOutput(new Viewer(x));
    }

    static String written(Keeper x) {
        int length = x.write();
        String s = latestOutput(x);
        due("the length that write() told", length, s.length());
        return s;
    }

    static String all(Keeper x) {
        return all(new Viewer(x));
    }

    static String everything(Keeper x) {
        return everything(x.calls);
    }

    static String error(Keeper x) {
        return error(new Viewer(x));
    }
}
