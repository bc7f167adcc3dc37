import java.util.ArrayDeque;
import java.util.ArrayList;
import java.util.Deque;
import java.util.HashMap;
import java.util.List;
import java.util.Map;
import java.util.NoSuchElementException;
import java.util.TreeMap;

/**
 * Runs of calls, made by a fixed rule, on the keeper and on a model that follows the words of the
 * document as slowly and plainly as it can; each answer and each exception has to be the same.
 */
public final class ModelTest {
    private static final int RUNS = 1500;
    private static final int CALLS = 512;

    // ---- the model

    private static final class Heading {
        String name;
        int level;
        boolean plain;
        boolean folded;

        Heading(String name, int level) {
            this.name = name;
            this.level = level;
        }

        Heading twin() {
            Heading h = new Heading(name, level);
            h.plain = plain;
            h.folded = folded;
            return h;
        }
    }

    private static final class State {
        List<Heading> row = new ArrayList<>();
        int[] style = new int[7];
        int[] start = {0, 1, 1, 1, 1, 1, 1};
        boolean[] own = new boolean[7];
        boolean[] on = new boolean[7];

        State twin() {
            State s = new State();
            for (Heading h : row) {
                s.row.add(h.twin());
            }
            s.style = style.clone();
            s.start = start.clone();
            s.own = own.clone();
            s.on = on.clone();
            return s;
        }

        Heading parent(Heading h) {
            for (int i = row.indexOf(h) - 1; i >= 0; i--) {
                if (row.get(i).level < h.level) {
                    return row.get(i);
                }
            }
            return null;
        }

        List<Heading> branch(Heading h) {
            List<Heading> branch = new ArrayList<>();
            branch.add(h);
            for (int i = row.indexOf(h) + 1; i < row.size() && row.get(i).level > h.level; i++) {
                branch.add(row.get(i));
            }
            return branch;
        }

        List<Heading> children(Heading h) {
            List<Heading> children = new ArrayList<>();
            for (Heading other : row) {
                if (parent(other) == h) {
                    children.add(other);
                }
            }
            return children;
        }

        int deepest(List<Heading> some) {
            return some.stream().mapToInt(h -> h.level).max().orElse(0);
        }

        boolean visible(Heading h) {
            for (Heading up = parent(h); up != null; up = parent(up)) {
                if (up.folded) {
                    return false;
                }
            }
            return true;
        }

        List<Heading> shown() {
            List<Heading> shown = new ArrayList<>();
            for (Heading h : row) {
                if (visible(h)) {
                    shown.add(h);
                }
            }
            return shown;
        }

        boolean numbered(Heading h) {
            return !h.plain && style[h.level] != 5;
        }

        int count(Heading h) {
            if (!numbered(h)) {
                return -1;
            }
            int count = start[h.level];
            for (Heading other : row) {
                if (other == h) {
                    break;
                }
                if (other.level == h.level && numbered(other) && (on[h.level] || parent(other) == parent(h))) {
                    count++;
                }
            }
            return count;
        }

        String sign(int kind, int count) {
            switch (kind) {
                case 0: return Integer.toString(count);
                case 1: return letters(count);
                case 2: return letters(count).toLowerCase();
                case 3: return roman(count);
                case 4: return roman(count).toLowerCase();
                default: throw new AssertionError();
            }
        }

        static String letters(int count) {
            return count == 0 ? "" : letters((count - 1) / 26) + (char) ('A' + (count - 1) % 26);
        }

        static String roman(int count) {
            String s = "I".repeat(count);
            String[] rules = {"IIIII", "V", "IIII", "IV", "VV", "X", "VIV", "IX", "XXXXX", "L", "XXXX", "XL", "LL", "C", "LXL", "XC"};
            for (int i = 0; i < rules.length; i += 2) {
                s = s.replace(rules[i], rules[i + 1]);
            }
            return s;
        }

        String number(Heading h) {
            if (!numbered(h)) {
                return "";
            }
            String sign = sign(style[h.level], count(h));
            Heading up = parent(h);
            if (own[h.level] || up == null || number(up).isEmpty()) {
                return sign;
            }
            return number(up) + "." + sign;
        }

        // Puts headings that are not in the row to the target, as a way says; they keep their differences.
        void put(List<Heading> some, Heading target, int way) {
            List<Heading> all = branch(target);
            int behind = row.indexOf(all.get(all.size() - 1)) + 1;
            int at = way == 0 ? row.indexOf(target) : way == 2 ? row.indexOf(target) + 1 : behind;
            int more = target.level + (way >= 2 ? 1 : 0) - some.get(0).level;
            for (Heading h : some) {
                h.level += more;
            }
            row.addAll(at, some);
        }

        int moveReason(Heading h, Heading target, int way) {
            if (branch(h).contains(target)) {
                return 2;
            }
            return deepest(branch(h)) - h.level + target.level + (way >= 2 ? 1 : 0) > 6 ? 1 : 0;
        }

        void move(Heading h, Heading target, int way) {
            List<Heading> branch = branch(h);
            row.removeAll(branch);
            put(branch, target, way);
        }

        int changedBy(int place, int target, int way) {
            if (moveReason(row.get(place), row.get(target), way) != 0) {
                return -1;
            }
            State then = twin();
            List<Heading> order = new ArrayList<>(then.row);
            then.move(then.row.get(place), then.row.get(target), way);
            int changed = 0;
            for (int i = 0; i < row.size(); i++) {
                if (!number(row.get(i)).equals(then.number(order.get(i)))) {
                    changed++;
                }
            }
            return changed;
        }

        String written() {
            StringBuilder out = new StringBuilder();
            for (Heading h : shown()) {
                out.append(" ".repeat(h.level - 1));
                if (!number(h).isEmpty()) {
                    out.append(number(h)).append(' ');
                }
                out.append(h.name).append(h.folded ? "+" : "").append('\n');
            }
            return out.toString();
        }

        int numberedOnes() {
            return (int) row.stream().filter(this::numbered).count();
        }
    }

    private static final class Wrong extends RuntimeException {
        private static final long serialVersionUID = 1L;
        final int code;
        final int position;

        Wrong(int code, int position) {
            this.code = code;
            this.position = position;
        }
    }

    private static final class Parser {
        final List<String> tokens = new ArrayList<>();
        final List<Integer> starts = new ArrayList<>();
        int next = 0;

        Parser(String text) {
            java.util.regex.Matcher m = java.util.regex.Pattern.compile("[ \\n]+|([a-z]+|[0-9]+|[\\x00-\\xff])", java.util.regex.Pattern.DOTALL).matcher(text);
            while (m.find()) {
                if (m.group(1) != null) {
                    tokens.add(m.group(1));
                    starts.add(m.start());
                }
            }
            tokens.add("");
            starts.add(text.length());
        }

        String token() {
            return tokens.get(next);
        }

        Wrong wrong(int code) {
            return new Wrong(code, starts.get(next));
        }

        boolean pass(String word) {
            if (token().equals(word)) {
                next++;
                return true;
            }
            return false;
        }

        void need(String word) {
            if (!pass(word)) {
                throw wrong(1);
            }
        }

        int number(int least, int greatest) {
            if (!token().matches("[0-9]+")) {
                throw wrong(1);
            }
            java.math.BigInteger value = new java.math.BigInteger(token());
            if (value.bitLength() > 20 || value.intValue() < least || value.intValue() > greatest) {
                throw wrong(2);
            }
            next++;
            return value.intValue();
        }

        int oneOf(String... words) {
            for (int i = 0; i < words.length; i++) {
                if (pass(words[i])) {
                    return i;
                }
            }
            throw wrong(1);
        }

        State outline() {
            State s = new State();
            while (!token().isEmpty()) {
                if (pass("style")) {
                    int level = number(1, 6);
                    s.style[level] = oneOf("decimal", "upper", "lower", "roman", "small", "none");
                    s.start[level] = pass("from") ? number(1, 99) : 1;
                    s.own[level] = pass("own");
                    s.on[level] = pass("on");
                } else {
                    heading(s);
                }
                need(";");
            }
            return s;
        }

        void heading(State s) {
            int ahead = s.row.isEmpty() ? 0 : s.row.get(s.row.size() - 1).level;
            int level = 0;
            if (!token().equals("*")) {
                throw wrong(1);
            }
            if (s.row.size() == 60) {
                throw wrong(4);
            }
            while (token().equals("*")) {
                level++;
                if (level == 7) {
                    throw wrong(2);
                }
                if (level == ahead + 2) {
                    throw wrong(3);
                }
                next++;
            }
            if (!token().matches("[a-z]{1,8}")) {
                throw wrong(1);
            }
            Heading h = new Heading(token(), level);
            next++;
            h.plain = pass("plain");
            h.folded = pass("folded");
            s.row.add(h);
        }

        List<int[]> script() {
            List<int[]> commands = new ArrayList<>();
            List<String> words = List.of("move", "promote", "demote", "remove", "dissolve", "fold", "unfold", "sort");
            while (!token().isEmpty()) {
                int word = words.indexOf(token());
                if (word < 0) {
                    throw wrong(1);
                }
                if (commands.size() == 40) {
                    throw wrong(4);
                }
                next++;
                int[] c = {word, number(0, 59), 0, 0};
                if (word == 0) {
                    c[2] = number(0, 59);
                    c[3] = oneOf("ahead", "behind", "first", "last");
                }
                need(";");
                commands.add(c);
            }
            return commands;
        }
    }

    private static final class Model {
        State s = new State();
        Deque<State> undo = new ArrayDeque<>();
        State[] saved = new State[2];
        int[] accounts = new int[8];
        String buffer = "";
        String output = "";
        int code = 0;
        int position = -1;

        Object call(String name, int[] p) {
            switch (name) {
                case "append": return append(p);
                case "load": return load();
                case "play": return play();
                case "errorCode": return code;
                case "errorPosition": return position;
                case "find": return find(p[0] != 0);
                case "size": return size(p[0]);
                case "heading": return heading(p[0], p[1]);
                case "letter": return byteOf(at(p[0]).name, p[1]);
                case "number": return byteOf(s.number(at(p[0])), p[1]);
                case "style": return style(p[0], p[1]);
                case "child": return child(p[0], p[1]);
                case "common": return common(at(p[0]), at(p[1]));
                case "visible": return p[0] >= 0 && p[0] < s.shown().size() ? s.row.indexOf(s.shown().get(p[0])) : -1;
                case "largest": return largest();
                case "account": argument(p[0] >= 0 && p[0] <= 7); return accounts[p[0]];
                case "share": return s.row.isEmpty() ? 0.0f : (float) s.shown().size() / (float) s.row.size();
                case "meanLevel": return s.row.isEmpty() ? 0.0 : (double) s.row.stream().mapToInt(h -> h.level).sum() / (double) s.row.size();
                case "whyNot": at(p[0]); at(p[1]); way(p[2]); return s.moveReason(at(p[0]), at(p[1]), p[2]);
                case "changedBy": at(p[0]); at(p[1]); way(p[2]); return s.changedBy(p[0], p[1], p[2]);
                case "cheapest": at(p[0]); level(p[1]); return cheapest(p[0], p[1]);
                case "wouldHide": return wouldHide(at(p[0]));
                case "insert": return insert(p[0], p[1], p[2]);
                case "remove": return remove(at(p[0]));
                case "dissolve": return dissolve(at(p[0]));
                case "move": at(p[0]); at(p[1]); way(p[2]); return move(at(p[0]), at(p[1]), p[2]);
                case "promote": return promote(at(p[0]));
                case "demote": return demote(at(p[0]));
                case "fold": return fold(at(p[0]), p[1] != 0);
                case "foldTo": return foldTo(p[0]);
                case "sort": return sort(p[0], p[1]);
                case "setPlain": return setPlain(at(p[0]), p[1] != 0);
                case "setStyle": return setStyle(p[0], p[1], p[2]);
                case "setMode": return setMode(p[0], p[1] != 0, p[2] != 0);
                case "write": output = s.written(); return output.length();
                case "output": index(p[0] >= 0 && p[0] < output.length()); return (int) output.charAt(p[0]);
                case "undo": state(!undo.isEmpty()); s = undo.pop(); return undo.size();
                case "save": index(p[0] == 0 || p[0] == 1); saved[p[0]] = s.twin(); return s.row.size();
                case "restore": return restore(p[0]);
                default: throw new AssertionError(name);
            }
        }

        static void index(boolean good) {
            if (!good) {
                throw new IndexOutOfBoundsException();
            }
        }

        static void argument(boolean good) {
            if (!good) {
                throw new IllegalArgumentException();
            }
        }

        static void state(boolean good) {
            if (!good) {
                throw new IllegalStateException();
            }
        }

        Heading at(int place) {
            index(place >= 0 && place < s.row.size());
            return s.row.get(place);
        }

        static void way(int way) {
            argument(way >= 0 && way <= 3);
        }

        static void level(int level) {
            index(level >= 1 && level <= 6);
        }

        static int byteOf(String text, int index) {
            return index >= 0 && index < text.length() ? text.charAt(index) : -1;
        }

        int refuse(int reason) {
            accounts[reason]++;
            return -reason;
        }

        void done() {
            accounts[0]++;
            undo.push(s.twin());
            if (undo.size() > 8) {
                undo.removeLast();
            }
        }

        int append(int[] p) {
            StringBuilder more = new StringBuilder();
            for (int four : p) {
                for (byte b : java.nio.ByteBuffer.allocate(4).putInt(four).array()) {
                    if (b != 0) {
                        more.append((char) (b & 255));
                    }
                }
            }
            state(buffer.length() + more.length() <= 700);
            buffer += more;
            return buffer.length();
        }

        int load() {
            String text = buffer;
            buffer = "";
            code = 0;
            position = -1;
            try {
                s = new Parser(text).outline();
                undo.clear();
                return s.row.size();
            } catch (Wrong w) {
                code = w.code;
                position = w.position;
                return -1;
            }
        }

        int play() {
            String text = buffer;
            buffer = "";
            code = 0;
            position = -1;
            List<int[]> commands;
            try {
                commands = new Parser(text).script();
            } catch (Wrong w) {
                code = w.code;
                position = w.position;
                return -1;
            }
            int done = 0;
            for (int[] c : commands) {
                if (c[1] >= s.row.size() || c[0] == 0 && c[2] >= s.row.size() || command(c) < 0) {
                    break;
                }
                done++;
            }
            return done;
        }

        int command(int[] c) {
            Heading h = at(c[1]);
            switch (c[0]) {
                case 0: return move(h, at(c[2]), c[3]);
                case 1: return promote(h);
                case 2: return demote(h);
                case 3: return remove(h);
                case 4: return dissolve(h);
                case 5: return fold(h, true);
                case 6: return fold(h, false);
                default: return sort(c[1], 0);
            }
        }

        int find(boolean isNumber) {
            String text = buffer;
            buffer = "";
            for (int i = 0; i < s.row.size() && !text.isEmpty(); i++) {
                if (text.equals(isNumber ? s.number(s.row.get(i)) : s.row.get(i).name)) {
                    return i;
                }
            }
            return -1;
        }

        int size(int what) {
            switch (what) {
                case 0: return s.row.size();
                case 1: return s.shown().size();
                case 2: return s.numberedOnes();
                case 3: return s.deepest(s.row);
                case 4: return s.children(null).size();
                case 5: return buffer.length();
                case 6: return undo.size();
                case 7: return (int) s.row.stream().filter(h -> h.folded).count();
                case 8: return shared();
                default: throw new IllegalArgumentException();
            }
        }

        int shared() {
            Map<String, Integer> all = new HashMap<>();
            for (Heading h : s.row) {
                all.merge(s.number(h), 1, Integer::sum);
            }
            all.remove("");
            return all.values().stream().filter(n -> n > 1).mapToInt(n -> n).sum();
        }

        int heading(int place, int what) {
            Heading h = at(place);
            argument(what >= 0 && what <= 11);
            switch (what) {
                case 0: return h.level;
                case 1: return s.row.indexOf(s.parent(h));
                case 2: return s.children(h).size();
                case 3: return s.branch(h).size();
                case 4: return s.deepest(s.branch(h));
                case 5: return s.children(s.parent(h)).indexOf(h);
                case 6: return h.plain ? 1 : 0;
                case 7: return h.folded ? 1 : 0;
                case 8: return s.visible(h) ? 1 : 0;
                case 9: return s.count(h);
                case 10: return s.number(h).length();
                default: return h.name.length();
            }
        }

        int style(int level, int what) {
            level(level);
            argument(what >= 0 && what <= 3);
            return new int[] {s.style[level], s.start[level], s.own[level] ? 1 : 0, s.on[level] ? 1 : 0}[what];
        }

        int child(int place, int child) {
            List<Heading> children = s.children(place == -1 ? null : at(place));
            if (child < 0 || child >= children.size()) {
                throw new NoSuchElementException();
            }
            return s.row.indexOf(children.get(child));
        }

        int common(Heading one, Heading other) {
            int found = -1;
            for (Heading h : s.row) {
                if (s.branch(h).contains(one) && s.branch(h).contains(other)) {
                    found = s.row.indexOf(h);
                }
            }
            return found;
        }

        int largest() {
            int best = -1;
            for (Heading h : s.children(null)) {
                if (best < 0 || s.branch(h).size() > s.branch(s.row.get(best)).size()) {
                    best = s.row.indexOf(h);
                }
            }
            return best;
        }

        int cheapest(int place, int level) {
            TreeMap<Integer, Integer> firstByChanged = new TreeMap<>();
            for (int target = 0; target < s.row.size(); target++) {
                for (int way = 0; way < 4; way++) {
                    if (s.row.get(target).level + (way < 2 ? 0 : 1) == level && s.moveReason(s.row.get(place), s.row.get(target), way) == 0) {
                        firstByChanged.putIfAbsent(s.changedBy(place, target, way), 10 * target + way);
                    }
                }
            }
            return firstByChanged.isEmpty() ? -1 : firstByChanged.firstEntry().getValue();
        }

        int wouldHide(Heading h) {
            int before = s.shown().size();
            boolean was = h.folded;
            h.folded = true;
            int after = s.shown().size();
            h.folded = was;
            return before - after;
        }

        int insert(int target, int way, int bytes) {
            if (target != -1) {
                at(target);
            }
            way(way);
            argument(bytes >= 1 && bytes <= 8 && bytes <= buffer.length() && buffer.substring(0, bytes).matches("[a-z]+"));
            Heading h = new Heading(buffer.substring(0, bytes), 1);
            buffer = "";
            if (s.row.size() == 60) {
                return refuse(3);
            }
            if (target != -1 && s.row.get(target).level + (way >= 2 ? 1 : 0) > 6) {
                return refuse(1);
            }
            done();
            if (target == -1) {
                s.row.add(h);
            } else {
                s.put(new ArrayList<>(List.of(h)), s.row.get(target), way);
            }
            return s.row.indexOf(h);
        }

        int remove(Heading h) {
            List<Heading> branch = s.branch(h);
            done();
            s.row.removeAll(branch);
            return branch.size();
        }

        int dissolve(Heading h) {
            done();
            for (Heading other : s.branch(h)) {
                other.level--;
            }
            s.row.remove(h);
            return s.row.size();
        }

        int move(Heading h, Heading target, int way) {
            int reason = s.moveReason(h, target, way);
            if (reason != 0) {
                return refuse(reason);
            }
            done();
            s.move(h, target, way);
            return s.row.indexOf(h);
        }

        int promote(Heading h) {
            if (h.level == 1) {
                return refuse(4);
            }
            done();
            for (Heading other : s.branch(h)) {
                other.level--;
            }
            return h.level;
        }

        int demote(Heading h) {
            if (s.children(s.parent(h)).indexOf(h) == 0) {
                return refuse(5);
            }
            if (s.deepest(s.branch(h)) == 6) {
                return refuse(1);
            }
            done();
            for (Heading other : s.branch(h)) {
                other.level++;
            }
            return h.level;
        }

        int fold(Heading h, boolean folded) {
            if (h.folded == folded) {
                return refuse(7);
            }
            if (folded && s.children(h).isEmpty()) {
                return refuse(6);
            }
            done();
            h.folded = folded;
            return s.shown().size();
        }

        int foldTo(int level) {
            level(level);
            done();
            for (Heading h : s.row) {
                h.folded = h.level >= level && !s.children(h).isEmpty();
            }
            return s.shown().size();
        }

        int sort(int place, int by) {
            Heading up = place == -1 ? null : at(place);
            argument(by >= 0 && by <= 2);
            List<Heading> children = s.children(up);
            if (children.isEmpty()) {
                return refuse(6);
            }
            done();
            List<Heading> sorted = new ArrayList<>(children);
            if (by == 0) {
                sorted.sort((a, b) -> a.name.compareTo(b.name));
            } else if (by == 1) {
                sorted.sort((a, b) -> s.branch(b).size() - s.branch(a).size());
            } else {
                java.util.Collections.reverse(sorted);
            }
            List<Heading> all = new ArrayList<>();
            for (Heading h : sorted) {
                all.addAll(s.branch(h));
            }
            int at = s.row.indexOf(children.get(0));
            s.row.removeAll(all);
            s.row.addAll(at, all);
            int changed = 0;
            for (int i = 0; i < sorted.size(); i++) {
                changed += sorted.get(i) == children.get(i) ? 0 : 1;
            }
            return changed;
        }

        int setPlain(Heading h, boolean plain) {
            if (h.plain == plain) {
                return refuse(7);
            }
            done();
            h.plain = plain;
            return s.numberedOnes();
        }

        int setStyle(int level, int style, int start) {
            level(level);
            argument(style >= 0 && style <= 5 && start >= 1 && start <= 99);
            done();
            int before = s.style[level];
            s.style[level] = style;
            s.start[level] = start;
            return before;
        }

        int setMode(int level, boolean own, boolean on) {
            level(level);
            done();
            int before = (s.own[level] ? 2 : 0) + (s.on[level] ? 1 : 0);
            s.own[level] = own;
            s.on[level] = on;
            return before;
        }

        int restore(int slot) {
            index(slot == 0 || slot == 1);
            state(saved[slot] != null);
            s = saved[slot].twin();
            undo.clear();
            return s.row.size();
        }
    }

    // ---- the keeper by the same names

    private static Object callKeeper(OutlineKeeper x, String name, int[] p) {
        switch (name) {
            case "append": return x.append(p[0], p[1], p[2], p[3], p[4]);
            case "load": return x.load();
            case "play": return x.play();
            case "errorCode": return x.errorCode();
            case "errorPosition": return x.errorPosition();
            case "find": return x.find(p[0] != 0);
            case "size": return x.size(p[0]);
            case "heading": return x.heading(p[0], p[1]);
            case "letter": return x.letter(p[0], p[1]);
            case "number": return x.number(p[0], p[1]);
            case "style": return x.style(p[0], p[1]);
            case "child": return x.child(p[0], p[1]);
            case "common": return x.common(p[0], p[1]);
            case "visible": return x.visible(p[0]);
            case "largest": return x.largest();
            case "account": return x.account(p[0]);
            case "share": return x.share();
            case "meanLevel": return x.meanLevel();
            case "whyNot": return x.whyNot(p[0], p[1], p[2]);
            case "changedBy": return x.changedBy(p[0], p[1], p[2]);
            case "cheapest": return x.cheapest(p[0], p[1]);
            case "wouldHide": return x.wouldHide(p[0]);
            case "insert": return x.insert(p[0], p[1], p[2]);
            case "remove": return x.remove(p[0]);
            case "dissolve": return x.dissolve(p[0]);
            case "move": return x.move(p[0], p[1], p[2]);
            case "promote": return x.promote(p[0]);
            case "demote": return x.demote(p[0]);
            case "fold": return x.fold(p[0], p[1] != 0);
            case "foldTo": return x.foldTo(p[0]);
            case "sort": return x.sort(p[0], p[1]);
            case "setPlain": return x.setPlain(p[0], p[1] != 0);
            case "setStyle": return x.setStyle(p[0], p[1], p[2]);
            case "setMode": return x.setMode(p[0], p[1] != 0, p[2] != 0);
            case "write": return x.write();
            case "output": return x.output(p[0]);
            case "undo": return x.undo();
            case "save": return x.save(p[0]);
            case "restore": return x.restore(p[0]);
            default: throw new AssertionError(name);
        }
    }

    // ---- the runs

    private static final class Run {
        final int number;
        final OutlineKeeper keeper = new OutlineKeeper();
        final Model model = new Model();
        long seed;
        int calls = 0;
        String wrong = null;
        final Map<String, Integer> seen;
        final List<String> told = new ArrayList<>();

        Run(int number, Map<String, Integer> seen) {
            this.number = number;
            this.seed = 0x9E3779B97F4A7C15L * (number + 1);
            this.seen = seen;
        }

        int below(int bound) {
            seed = seed * 6364136223846793005L + 1442695040888963407L;
            return (int) ((seed >>> 33) % bound);
        }

        int between(int least, int greatest) {
            return least + below(greatest - least + 1);
        }

        void both(String name, int... p) {
            if (wrong != null || calls >= CALLS) {
                return;
            }
            calls++;
            Object due = answer(() -> model.call(name, p));
            Object got = answer(() -> callKeeper(keeper, name, p));
            String call = name + java.util.Arrays.toString(p);
            told.add(call + " -> " + got);
            seen.merge(name + " " + kindOf(due), 1, Integer::sum);
            if (!due.equals(got)) {
                wrong = "run " + number + ", call " + calls + ": " + call + " answered " + got + ", due is " + due;
            }
        }

        static String kindOf(Object answer) {
            if (answer instanceof Integer) {
                int n = (Integer) answer;
                return n >= 0 ? "number" : Integer.toString(n);
            }
            return answer instanceof String ? (String) answer : "real";
        }

        static Object answer(java.util.function.Supplier<Object> call) {
            try {
                return call.get();
            } catch (IllegalStateException | IllegalArgumentException | IndexOutOfBoundsException | NoSuchElementException e) {
                return e.getClass().getSimpleName();
            }
        }

        void text(String text) {
            for (int i = 0; i < text.length(); i += 20) {
                int[] p = new int[5];
                for (int j = i; j < Math.min(i + 20, text.length()); j++) {
                    p[(j - i) / 4] |= text.charAt(j) << 24 - 8 * ((j - i) % 4);
                }
                both("append", p);
            }
        }

        String name() {
            StringBuilder name = new StringBuilder();
            int letters = below(200) == 0 ? 9 : below(12) == 0 ? 8 : between(1, 3);
            if (below(10) == 0) {
                return List.of("plain", "folded", "style", "on").get(below(4));
            }
            for (int i = 0; i < letters; i++) {
                name.append((char) ('a' + below(below(5) == 0 ? 26 : 3)));
            }
            return name.toString();
        }

        String space(boolean needed) {
            int n = below(6);
            return n == 0 ? "  " : n == 1 ? "\n" : n == 2 || needed ? " " : "";
        }

        String outline() {
            StringBuilder text = new StringBuilder();
            int statements = below(12) == 0 ? between(0, 4) : below(3) == 0 ? between(55, 75) : between(5, 40);
            // Crowded ones are short enough for 60 headings and more.
            boolean crowded = statements > 40;
            int ahead = 0;
            for (int i = 0; i < statements; i++) {
                if (below(8) == 0) {
                    text.append("style").append(space(false)).append(between(below(60) == 0 ? 0 : 1, below(60) == 0 ? 7 : 6)).append(space(false));
                    text.append(List.of("decimal", "upper", "lower", "roman", "small", "none").get(below(6)));
                    if (below(2) == 0) {
                        text.append(space(true)).append("from").append(space(false)).append(between(below(60) == 0 ? 0 : 1, below(60) == 0 ? 101 : 99));
                        text.append(space(false)).append(below(3) == 0 ? "own" : "").append(below(3) == 0 ? " on" : "");
                    } else {
                        text.append(below(3) == 0 ? " own" : "").append(below(3) == 0 ? " on" : "");
                    }
                } else {
                    int level = below(200) == 0 ? between(1, 7) : between(Math.max(1, ahead - below(4)), Math.min(6, ahead + 1));
                    for (int j = 0; j < level; j++) {
                        text.append('*').append(below(30) == 0 ? " " : "");
                    }
                    text.append(crowded ? "" : space(false)).append(crowded ? "x" : name()).append(below(5) == 0 ? " plain" : "").append(below(5) == 0 ? " folded" : "");
                    ahead = Math.min(level, 6);
                }
                text.append(crowded ? "" : space(false)).append(';').append(crowded ? "" : space(false));
            }
            return mutated(text);
        }

        String script() {
            StringBuilder text = new StringBuilder();
            int commands = below(20) == 0 ? between(39, 42) : between(0, 8);
            int places = Math.max(1, model.s.row.size() + (below(4) == 0 ? 2 : 0));
            for (int i = 0; i < commands; i++) {
                int word = below(8);
                text.append(List.of("move", "promote", "demote", "remove", "dissolve", "fold", "unfold", "sort").get(word));
                text.append(space(false)).append(below(40) == 0 ? between(58, 61) : below(places)).append(space(false));
                if (word == 0) {
                    text.append(space(true)).append(below(places)).append(space(false));
                    text.append(List.of("ahead", "behind", "first", "last").get(below(4)));
                }
                text.append(space(false)).append(';');
            }
            return mutated(text);
        }

        String mutated(StringBuilder text) {
            if (text.length() > 700) {
                text.setLength(text.lastIndexOf(";", 699) + 1);
            }
            int changes = below(5) == 0 ? between(1, 2) : 0;
            for (int i = 0; i < changes && text.length() > 0; i++) {
                int at = below(text.length());
                String with = List.of("*", ";", "a", "0", " ", "A", "on", "007", "\u00e4", "9999999999", "\t").get(below(11));
                if (below(2) == 0) {
                    text.deleteCharAt(at);
                }
                if (below(3) != 0) {
                    text.insert(at, with);
                }
            }
            if (text.length() > 700) {
                text.setLength(700);
            }
            return text.toString();
        }

        int place() {
            int n = model.s.row.size();
            int chance = below(40);
            return chance == 0 ? -1 : chance == 1 ? n : chance == 2 ? between(-100, 100) : n == 0 ? 0 : below(n);
        }

        int last() {
            return model.s.row.size() - 1;
        }

        int placeOrNone() {
            return below(5) == 0 ? -1 : place();
        }

        int within(int least, int greatest) {
            return below(25) == 0 ? between(least - 1, greatest + 1) : between(least, greatest);
        }

        void step() {
            int chance = below(100);
            if (calls == 0 || chance < 3) {
                clear();
                text(outline());
                both("load");
                both("errorCode");
                both("errorPosition");
            } else if (chance < 7) {
                clear();
                text(script());
                both("play");
                both("errorCode");
                both("errorPosition");
            } else if (chance < 11) {
                findOne();
            } else if (chance < 12) {
                int times = below(8) == 0 ? 38 : below(3);
                for (int i = 0; i < times; i++) {
                    both("append", 0x61626364, 0x2a0a3b20, below(3), below(1 << 30), -1 - below(1 << 30));
                }
            } else if (chance < 14) {
                both("write");
                for (int i = 0; i < 5; i++) {
                    both("output", between(-1, model.output.length()));
                }
            } else if (chance < 55) {
                act();
            } else {
                ask();
            }
        }

        void clear() {
            if (model.buffer.length() > 0 && below(10) != 0) {
                both("find", below(2));
            }
        }

        void findOne() {
            clear();
            boolean isNumber = below(2) == 0;
            String text = name();
            if (!model.s.row.isEmpty() && below(4) != 0) {
                Heading h = model.s.row.get(below(model.s.row.size()));
                text = isNumber ? model.s.number(h) : h.name;
            }
            text(text);
            both("find", isNumber ? 1 : 0);
        }

        void act() {
            switch (below(18)) {
                case 0: case 1: case 2: case 3:
                    clear();
                    text(below(10) == 0 ? "aB" : name() + (below(5) == 0 ? ";" : ""));
                    both("insert", placeOrNone(), within(0, 3), below(10) == 0 ? between(0, 9) : Math.max(1, Math.min(8, model.buffer.length())));
                    break;
                case 4: both(below(3) == 0 ? "remove" : "promote", below(3) == 0 ? place() : last()); break;
                case 5: both(below(2) == 0 ? "demote" : "dissolve", place()); break;
                case 6: case 7: both("move", place(), place(), within(0, 3)); break;
                case 8: both("promote", place()); break;
                case 9: case 10: both("demote", place()); break;
                case 11: both("fold", place(), below(3) == 0 ? 0 : 1); break;
                case 12: both("foldTo", within(1, 6)); break;
                case 13: both("sort", placeOrNone(), within(0, 2)); break;
                case 14: both("setPlain", place(), below(3) == 0 ? 1 : 0); break;
                case 15: both("setStyle", within(1, 6), within(0, 5), below(5) == 0 ? between(-1, 101) : between(1, below(2) == 0 ? 99 : 9)); break;
                case 16: both("setMode", within(1, 6), below(2), below(2)); break;
                default:
                    int times = below(4);
                    for (int i = 0; i < times; i++) {
                        both("undo");
                    }
                    if (below(3) == 0) {
                        both(below(2) == 0 ? "save" : "restore", within(0, 1));
                    }
                    break;
            }
        }

        void ask() {
            switch (below(17)) {
                case 0: both("size", within(0, 8)); break;
                case 1: case 2: case 3: both("heading", place(), within(0, 11)); break;
                case 4: both("letter", place(), between(-1, 8)); break;
                case 5: case 6: both("number", place(), between(-1, 12)); break;
                case 7: both("style", within(1, 6), within(0, 3)); break;
                case 8: both("child", placeOrNone(), between(-1, 4)); break;
                case 9: both("common", place(), place()); break;
                case 10: both("visible", between(-1, model.s.row.size())); break;
                case 11: both("largest"); both("account", within(0, 7)); break;
                case 12: both("share"); both("meanLevel"); break;
                case 13: both("whyNot", place(), place(), within(0, 3)); break;
                case 14: both("changedBy", place(), place(), within(0, 3)); break;
                case 15: both(below(4) == 0 ? "cheapest" : "wouldHide", below(4) == 0 ? new int[] {place(), within(1, 6)} : new int[] {place(), 1}); break;
                default: both("size", 8); both("size", 6); both("size", 2); break;
            }
        }
    }

    public static void main(String[] args) {
        int runs = args.length > 0 ? Integer.parseInt(args[0]) : RUNS;
        Map<String, Integer> seen = new TreeMap<>();
        int wrong = 0;
        for (int i = 0; i < runs && wrong < 5; i++) {
            Run run = new Run(i, seen);
            while (run.calls < CALLS && run.wrong == null) {
                run.step();
            }
            if (run.wrong != null) {
                wrong++;
                System.out.println(run.wrong);
                for (String call : run.told.subList(Math.max(0, run.told.size() - 30), run.told.size())) {
                    System.out.println("    " + call);
                }
            }
        }
        if (args.length > 1) {
            System.out.println(seen);
        }
        System.out.println(wrong == 0 ? runs + " runs answered as the model" : "some runs did not answer as the model");
        if (wrong != 0) {
            System.exit(1);
        }
    }
}
