import java.util.ArrayDeque;
import java.util.ArrayList;
import java.util.Comparator;
import java.util.Deque;
import java.util.List;
import java.util.regex.Matcher;
import java.util.regex.Pattern;

/**
 * Long runs of calls, made by a fixed row of numbers, against a second quarry that is built
 * otherwise: stones with references, ropes as lists, whole copies, and a text by a pattern.
 */
public final class ModelTests {
    private static final int RUNS = 1500;
    private static final int CALLS = 512;

    private static final class Stone {
        int number;
        int weight;
        Stone holder;
        Stone left;
        Stone right;
        Stone upper;
    }

    private static final class Pulled {
        Stone at;
        int load;
        int pulls;
        boolean arrived;
    }

    /** What changes can change. */
    private static final class State {
        final List<Stone> stones = new ArrayList<>();
        final List<Pulled> sledges = new ArrayList<>();
        int exposings;
        int turns;
        int hangings;
        int cuttings;

        State copy() {
            State copy = new State();
            for (Stone stone : stones) {
                Stone other = new Stone();
                other.number = stone.number;
                other.weight = stone.weight;
                copy.stones.add(other);
            }
            for (Stone stone : stones) {
                Stone other = copy.stones.get(stone.number);
                other.holder = copy.same(stone.holder);
                other.left = copy.same(stone.left);
                other.right = copy.same(stone.right);
                other.upper = copy.same(stone.upper);
            }
            for (Pulled sledge : sledges) {
                Pulled other = new Pulled();
                other.at = copy.same(sledge.at);
                other.load = sledge.load;
                other.pulls = sledge.pulls;
                other.arrived = sledge.arrived;
                copy.sledges.add(other);
            }
            copy.exposings = exposings;
            copy.turns = turns;
            copy.hangings = hangings;
            copy.cuttings = cuttings;
            return copy;
        }

        Stone same(Stone stone) {
            return stone == null ? null : stones.get(stone.number);
        }

        Stone find(int number) {
            return number >= 0 && number < stones.size() ? stones.get(number) : null;
        }

        void rotateLeftOne(Stone x) {
            Stone p = x.upper;
            Stone g = p.upper;
            p.left = x.right;
            if (p.left != null) {
                p.left.upper = p;
            }
            x.right = p;
            settle(x, p, g);
        }

        void rotateRightOne(Stone x) {
            Stone p = x.upper;
            Stone g = p.upper;
            p.right = x.left;
            if (p.right != null) {
                p.right.upper = p;
            }
            x.left = p;
            settle(x, p, g);
        }

        void settle(Stone x, Stone p, Stone g) {
            p.upper = x;
            x.upper = g;
            if (g != null && g.left == p) {
                g.left = x;
            } else if (g != null) {
                g.right = x;
            }
            turns++;
        }

        void rotate(Stone x) {
            if (x.upper.left == x) {
                rotateLeftOne(x);
            } else {
                rotateRightOne(x);
            }
        }

        void splay(Stone x) {
            while (x.upper != null) {
                Stone p = x.upper;
                if (p.upper == null) {
                    rotate(x);
                } else if (p.left == x && p.upper.left == p || p.right == x && p.upper.right == p) {
                    rotate(p);
                    rotate(x);
                } else {
                    rotate(x);
                    rotate(x);
                }
            }
        }

        void expose(Stone x) {
            exposings++;
            splay(x);
            dropRight(x);
            while (rope(x).get(0).holder != null) {
                Stone head = head(x);
                Stone holder = rope(x).get(0).holder;
                splay(holder);
                dropRight(holder);
                holder.right = head;
                head.upper = holder;
            }
            splay(x);
        }

        void dropRight(Stone x) {
            if (x.right != null) {
                x.right.upper = null;
                x.right = null;
            }
        }

        static Stone head(Stone x) {
            return x.upper == null ? x : head(x.upper);
        }

        static List<Stone> rope(Stone x) {
            List<Stone> row = new ArrayList<>();
            gather(head(x), row);
            return row;
        }

        static void gather(Stone x, List<Stone> row) {
            if (x != null) {
                gather(x.left, row);
                row.add(x);
                gather(x.right, row);
            }
        }

        static List<Stone> chain(Stone x) {
            List<Stone> row = new ArrayList<>();
            for (Stone here = x; here != null; here = here.holder) {
                row.add(here);
            }
            return row;
        }

        static Stone root(Stone x) {
            List<Stone> row = chain(x);
            return row.get(row.size() - 1);
        }

        static int weight(List<Stone> row) {
            int total = 0;
            for (Stone stone : row) {
                total += stone.weight;
            }
            return total;
        }
    }

    private static final Pattern TEXT = Pattern.compile(text());

    private static String text() {
        String number = "[0-9][0-9]?";
        String command = "(?:(?:block|cut|walk|up|sledge) " + number + "|(?:hang|weigh) " + number + " " + number + "|pull)";
        return command + "(?:;" + command + ")*";
    }

    /** The second quarry. */
    private static final class Model {
        State s = new State();
        State saved;
        final Deque<State> before = new ArrayDeque<>();
        String input = "";
        String line = "";
        int fault = -4;
        int[] why = {0, 0};
        int[] whyBehind = {0, 0};

        int refuse(int reason, int detail) {
            why = new int[] {reason, detail};
            whyBehind = new int[] {0, 0};
            return -3;
        }

        int change(String word, int a, int b) {
            State copy = s.copy();
            int code = word.equals("read") ? readText(copy) : carryOut(word, a, b);
            if (code < 0) {
                s = copy;
                return code;
            }
            before.addLast(copy);
            if (before.size() > 8) {
                before.removeFirst();
            }
            return code;
        }

        int readText(State copy) {
            String text = input;
            input = "";
            if (!TEXT.matcher(text).matches()) {
                fault = faultOf(text);
                return -2;
            }
            String[] commands = text.split(";");
            for (int i = 0; i < commands.length; i++) {
                String[] parts = commands[i].split(" ");
                int a = parts.length > 1 ? Integer.parseInt(parts[1]) : 0;
                int b = parts.length > 2 ? Integer.parseInt(parts[2]) : 0;
                int code = carryOut(parts[0], a, b);
                if (code == -3) {
                    whyBehind = why;
                    why = new int[] {7, i};
                    return -3;
                }
                if (code < 0) {
                    return refuse(8, i);
                }
            }
            return commands.length;
        }

        static int faultOf(String text) {
            for (int i = 0; i < text.length(); i++) {
                Matcher matcher = TEXT.matcher(text.substring(0, i + 1));
                if (!matcher.matches() && !matcher.hitEnd()) {
                    return i;
                }
            }
            return text.length();
        }

        int carryOut(String word, int a, int b) {
            if (word.equals("block")) {
                return comes(a);
            }
            if (word.equals("pull")) {
                return pulled();
            }
            Stone x = s.find(a);
            if (x == null) {
                return -1;
            }
            switch (word) {
                case "hang":
                    return hung(x, s.find(b));
                case "cut":
                    return cutOff(x);
                case "walk":
                    s.expose(x);
                    return State.weight(State.chain(x));
                case "up":
                    s.expose(x);
                    s.splay(State.rope(x).get(0));
                    return State.root(x).number;
                case "weigh":
                    return weighed(x, b);
                default:
                    return set(x);
            }
        }

        int comes(int weight) {
            if (weight < 0 || weight > 99) {
                return -2;
            }
            if (s.stones.size() == 16) {
                return refuse(1, 16);
            }
            Stone stone = new Stone();
            stone.number = s.stones.size();
            stone.weight = weight;
            s.stones.add(stone);
            return stone.number;
        }

        int hung(Stone x, Stone y) {
            if (y == null) {
                return -1;
            }
            if (x.holder != null) {
                return refuse(2, x.holder.number);
            }
            if (State.root(y) == x) {
                return refuse(3, x.number);
            }
            s.expose(x);
            s.expose(y);
            x.holder = y;
            s.hangings++;
            return State.chain(x).size() - 1;
        }

        int cutOff(Stone x) {
            if (x.holder == null) {
                return refuse(4, x.number);
            }
            s.expose(x);
            x.left.upper = null;
            x.left = null;
            int holder = x.holder.number;
            x.holder = null;
            s.cuttings++;
            return holder;
        }

        int weighed(Stone x, int weight) {
            if (weight < 0 || weight > 99) {
                return -2;
            }
            if (x.weight == weight) {
                return refuse(5, weight);
            }
            int old = x.weight;
            x.weight = weight;
            return old;
        }

        int set(Stone x) {
            if (s.sledges.size() == 3) {
                return refuse(1, 3);
            }
            Pulled sledge = new Pulled();
            sledge.at = x;
            sledge.load = x.weight;
            s.sledges.add(sledge);
            return s.sledges.size() - 1;
        }

        int pulled() {
            int arrived = account(9);
            if (arrived == s.sledges.size()) {
                return refuse(6, arrived);
            }
            for (Pulled sledge : s.sledges) {
                if (!sledge.arrived) {
                    s.expose(sledge.at);
                    sledge.pulls++;
                    sledge.arrived = sledge.at.holder == null;
                    sledge.at = sledge.arrived ? sledge.at : sledge.at.holder;
                }
            }
            return account(9) - arrived;
        }

        int append(char c) {
            if (c < 32 || c > 126 || input.length() == 60) {
                return -2;
            }
            input += c;
            return input.length();
        }

        int clear() {
            int count = s.stones.size();
            s = new State();
            before.clear();
            return count;
        }

        int reason(int depth, boolean isDetail) {
            if (depth < 0 || depth > 1) {
                return -2;
            }
            int[] pair = depth == 0 ? why : whyBehind;
            return pair[0] == 0 ? -4 : isDetail ? pair[1] : pair[0];
        }

        static int numberOf(Stone stone) {
            return stone == null ? -4 : stone.number;
        }

        int blockOf(int block, int what) {
            Stone x = s.find(block);
            if (x == null) {
                return -1;
            }
            int atOnce = 0;
            int inAll = 0;
            int hang = 0;
            for (Stone y : s.stones) {
                atOnce += y.holder == x ? 1 : 0;
                inAll += y != x && State.chain(y).contains(x) ? 1 : 0;
                hang += State.root(x) == State.root(y) ? 1 : 0;
            }
            int here = 0;
            for (Pulled sledge : s.sledges) {
                here += sledge.at == x && !sledge.arrived ? 1 : 0;
            }
            int[] all = {x.weight, numberOf(x.holder), State.chain(x).size() - 1, atOnce, inAll, hang, here};
            return what < 0 || what > 6 ? -2 : all[what];
        }

        int treeOf(int block, int what) {
            Stone x = s.find(block);
            if (x == null) {
                return -1;
            }
            int above = 0;
            for (Stone y = x.upper; y != null; y = y.upper) {
                above++;
            }
            List<Stone> below = new ArrayList<>();
            State.gather(x, below);
            int[] all = {numberOf(x.left), numberOf(x.right), numberOf(x.upper), State.head(x).number, above,
                below.size(), State.weight(below)};
            return what < 0 || what > 6 ? -2 : all[what];
        }

        int ropeOf(int block, int place) {
            Stone x = s.find(block);
            return x == null || place < 0 || place >= State.rope(x).size() ? -1 : State.rope(x).get(place).number;
        }

        int placeOf(int block) {
            Stone x = s.find(block);
            return x == null ? -1 : State.rope(x).indexOf(x);
        }

        int ropes() {
            int found = 0;
            for (Stone x : s.stones) {
                found += State.rope(x).get(0) == x ? 1 : 0;
            }
            return found;
        }

        int ropesAbove(int block) {
            Stone x = s.find(block);
            if (x == null) {
                return -1;
            }
            List<Stone> heads = new ArrayList<>();
            for (Stone y : State.chain(x)) {
                if (!heads.contains(State.head(y))) {
                    heads.add(State.head(y));
                }
            }
            return heads.size();
        }

        int turnsFor(int block) {
            if (s.find(block) == null) {
                return -1;
            }
            State copy = s.copy();
            copy.expose(copy.find(block));
            return copy.turns - s.turns;
        }

        int sum(int block) {
            Stone x = s.find(block);
            return x == null ? -1 : State.weight(State.chain(x));
        }

        int root(int block) {
            Stone x = s.find(block);
            return x == null ? -1 : State.root(x).number;
        }

        int joint(int one, int other) {
            Stone x = s.find(one);
            Stone y = s.find(other);
            if (x == null || y == null) {
                return -1;
            }
            List<Stone> both = State.chain(x);
            both.retainAll(State.chain(y));
            return both.isEmpty() ? -4 : both.get(0).number;
        }

        int sledgeOf(int sledge, int what) {
            if (sledge < 0 || sledge >= s.sledges.size()) {
                return -1;
            }
            Pulled x = s.sledges.get(sledge);
            int[] all = {x.at.number, x.load, x.pulls, x.arrived ? 1 : 0};
            return what < 0 || what > 3 ? -2 : all[what];
        }

        int ranked(int place) {
            List<Stone> row = new ArrayList<>(s.stones);
            row.sort(Comparator.comparingInt((Stone x) -> -x.weight)
                .thenComparingInt(x -> State.chain(x).size()).thenComparingInt(x -> x.number));
            return place < 0 || place >= row.size() ? -1 : row.get(place).number;
        }

        static String tree(Stone x) {
            return x == null ? "" : "(" + tree(x.left) + x.number + tree(x.right) + ")";
        }

        int tellTree(int block) {
            Stone x = s.find(block);
            if (x == null) {
                return -1;
            }
            line = tree(State.head(x));
            return line.length();
        }

        int tellRopes() {
            List<String> all = new ArrayList<>();
            for (Stone x : s.stones) {
                List<Stone> row = State.rope(x);
                if (row.get(0) == x) {
                    List<String> numbers = new ArrayList<>();
                    for (Stone y : row) {
                        numbers.add(String.valueOf(y.number));
                    }
                    all.add(String.join("-", numbers));
                }
            }
            line = String.join(" ", all);
            return line.length();
        }

        int written(int index) {
            return index < 0 || index >= line.length() ? -1 : line.charAt(index);
        }

        int roots() {
            int found = 0;
            for (Stone x : s.stones) {
                found += x.holder == null ? 1 : 0;
            }
            return found;
        }

        float meanDepth() {
            int total = 0;
            for (Stone x : s.stones) {
                total += State.chain(x).size() - 1;
            }
            return s.stones.isEmpty() ? 0.0f : (float) total / (float) s.stones.size();
        }

        double rootShare() {
            return s.stones.isEmpty() ? 0.0 : (double) roots() / (double) s.stones.size();
        }

        int account(int what) {
            int arrived = 0;
            int loads = 0;
            for (Pulled sledge : s.sledges) {
                arrived += sledge.arrived ? 1 : 0;
                loads += sledge.arrived ? sledge.load : 0;
            }
            int[] all = {s.stones.size(), roots(), ropes(), State.weight(s.stones), s.exposings, s.turns, s.hangings,
                s.cuttings, s.sledges.size() - arrived, arrived, loads, input.length(), before.size()};
            return what < 0 || what > 12 ? -2 : all[what];
        }

        int undo() {
            if (before.isEmpty()) {
                return -4;
            }
            s = before.removeLast();
            return before.size();
        }

        int save() {
            saved = s.copy();
            return s.stones.size();
        }

        int restore() {
            if (saved == null) {
                return -4;
            }
            s = saved.copy();
            before.clear();
            return s.stones.size();
        }
    }

    private static long row = 1;
    private static int wrong = 0;
    private static long asked = 0;
    private static final int[] SEEN = new int[9];

    private static int next(int bound) {
        row = row * 6364136223846793005L + 1442695040888963407L;
        return (int) ((row >>> 33) % bound);
    }

    private static void due(int run, String call, double got, double want) {
        asked++;
        if (got != want) {
            wrong++;
            if (wrong < 20) {
                System.out.println("run " + run + ": " + call + " answered " + got + ", due is " + want);
            }
        }
    }

    private static String command() {
        String[] words = {"block", "hang", "cut", "walk", "up", "weigh", "sledge", "pull"};
        String word = words[next(words.length)];
        String text = word;
        if (!word.equals("pull")) {
            text += " " + next(word.equals("block") ? 100 : 14);
        }
        if (word.equals("hang") || word.equals("weigh")) {
            text += " " + (next(5) == 0 ? "0" + next(10) : String.valueOf(next(12)));
        }
        return text;
    }

    private static String textToRead() {
        StringBuilder text = new StringBuilder(command());
        for (int more = next(5); more > 0; more--) {
            text.append(next(3) == 0 ? "" : ";").append(next(4) == 0 ? "" : command());
        }
        if (next(3) == 0 && text.length() > 0) {
            text.setCharAt(next(text.length()), " 1;abcghklpuw9".charAt(next(14)));
        }
        if (next(6) == 0) {
            text.setLength(next(text.length() + 1));
        }
        return text.toString();
    }

    private static void read(int run, QuarryRopes x, Model m) {
        String text = next(40) == 0 ? "" : textToRead();
        for (int i = 0; i < text.length(); i++) {
            due(run, "append", x.append(text.charAt(i)), m.append(text.charAt(i)));
        }
        due(run, "read() of " + m.input, x.read(), m.change("read", 0, 0));
        due(run, "fault()", x.fault(), m.fault);
    }

    private static void change(int run, QuarryRopes x, Model m, int kind) {
        int a = next(18) - 1;
        int b = next(18) - 1;
        switch (kind) {
            case 0 -> due(run, "block", x.block(a * 7 - 1), m.change("block", a * 7 - 1, 0));
            case 1 -> due(run, "hang " + a + " " + b, x.hang(a, b), m.change("hang", a, b));
            case 2 -> due(run, "cut " + a, x.cut(a), m.change("cut", a, 0));
            case 3 -> due(run, "walk " + a, x.walk(a), m.change("walk", a, 0));
            case 4 -> due(run, "up " + a, x.up(a), m.change("up", a, 0));
            case 5 -> due(run, "weigh " + a + " " + b * 6, x.weigh(a, b * 6), m.change("weigh", a, b * 6));
            case 6 -> due(run, "sledge " + a, x.sledge(a), m.change("sledge", a, 0));
            default -> due(run, "pull", x.pull(), m.change("pull", 0, 0));
        }
        SEEN[m.why[0]]++;
    }

    private static void keep(int run, QuarryRopes x, Model m, int kind) {
        switch (kind) {
            case 0 -> due(run, "clear", x.clear(), m.clear());
            case 1 -> due(run, "save", x.save(), m.save());
            case 2 -> due(run, "restore", x.restore(), m.restore());
            default -> due(run, "undo", x.undo(), m.undo());
        }
    }

    private static void ask(int run, QuarryRopes x, Model m, int kind) {
        int a = next(18) - 1;
        int b = next(18) - 1;
        switch (kind) {
            case 0 -> due(run, "blockOf", x.blockOf(a, b / 2 - 1), m.blockOf(a, b / 2 - 1));
            case 1 -> due(run, "treeOf", x.treeOf(a, b / 2 - 1), m.treeOf(a, b / 2 - 1));
            case 2 -> due(run, "ropeOf", x.ropeOf(a, b / 2 - 1), m.ropeOf(a, b / 2 - 1));
            case 3 -> due(run, "placeOf", x.placeOf(a), m.placeOf(a));
            case 4 -> due(run, "ropes", x.ropes(), m.ropes());
            case 5 -> due(run, "ropesAbove", x.ropesAbove(a), m.ropesAbove(a));
            case 6 -> due(run, "turnsFor", x.turnsFor(a), m.turnsFor(a));
            case 7 -> due(run, "sum", x.sum(a), m.sum(a));
            case 8 -> due(run, "sumAgain", x.sumAgain(a), m.sum(a));
            case 9 -> due(run, "root", x.root(a), m.root(a));
            case 10 -> due(run, "rootAgain", x.rootAgain(a), m.root(a));
            case 11 -> due(run, "joint", x.joint(a, b), m.joint(a, b));
            case 12 -> due(run, "jointAgain", x.jointAgain(a, b), m.joint(a, b));
            case 13 -> due(run, "sledgeOf", x.sledgeOf(a % 5, b % 6), m.sledgeOf(a % 5, b % 6));
            case 14 -> due(run, "ranked", x.ranked(a), m.ranked(a));
            case 15 -> due(run, "tellTree", x.tellTree(a), m.tellTree(a));
            case 16 -> due(run, "tellRopes", x.tellRopes(), m.tellRopes());
            case 17 -> due(run, "written", x.written(a * 3), m.written(a * 3));
            case 18 -> due(run, "isWell", x.isWell(), 1);
            case 19 -> due(run, "meanDepth", x.meanDepth(), m.meanDepth());
            case 20 -> due(run, "rootShare", x.rootShare(), m.rootShare());
            case 21 -> due(run, "account", x.account(b), m.account(b));
            case 22 -> due(run, "reason", x.reason(a % 4, b % 2 == 0), m.reason(a % 4, b % 2 == 0));
            default -> due(run, "append", x.append((char) (b * 9)), m.append((char) (b * 9)));
        }
    }

    /** Everything that can be asked, so that no difference stays hidden until the run is over. */
    private static void askAll(int run, QuarryRopes x, Model m) {
        for (int a = -1; a < 17; a++) {
            for (int what = -1; what < 8; what++) {
                due(run, "blockOf", x.blockOf(a, what), m.blockOf(a, what));
                due(run, "treeOf", x.treeOf(a, what), m.treeOf(a, what));
                due(run, "sledgeOf", x.sledgeOf(a, what), m.sledgeOf(a, what));
            }
            due(run, "turnsFor", x.turnsFor(a), m.turnsFor(a));
            due(run, "ranked", x.ranked(a), m.ranked(a));
            due(run, "account", x.account(a), m.account(a));
            for (int b = -1; b < 17; b++) {
                due(run, "ropeOf", x.ropeOf(a, b), m.ropeOf(a, b));
                due(run, "joint", x.joint(a, b), m.joint(a, b));
                due(run, "jointAgain", x.jointAgain(a, b), m.joint(a, b));
            }
        }
        for (int index = -1; index < 62; index++) {
            due(run, "written", x.written(index), m.written(index));
        }
        for (int depth = -1; depth < 3; depth++) {
            due(run, "reason", x.reason(depth, false), m.reason(depth, false));
            due(run, "reason", x.reason(depth, true), m.reason(depth, true));
        }
    }

    private static void run(int run) {
        QuarryRopes x = new QuarryRopes();
        Model m = new Model();
        // A run that keeps little has more time to grow deep.
        int keeping = run % 3 == 0 ? 4 : 60;
        int coming = 3 + run % 14;
        for (int call = 0; call < CALLS; call++) {
            if (call < coming) {
                change(run, x, m, 0);
            } else if (run % 5 == 0 && call < 2 * coming) {
                int block = call - coming;
                due(run, "hang", x.hang(block + 1, block), m.change("hang", block + 1, block));
            } else if (next(keeping) == 0) {
                int kind = next(20);
                keep(run, x, m, kind < 3 ? kind : 3);
            } else if (next(8) == 0) {
                read(run, x, m);
            } else if (next(2) == 0) {
                change(run, x, m, next(12) < 5 ? 1 : next(8));
            } else {
                ask(run, x, m, next(24));
            }
            if (next(64) == 0) {
                askAll(run, x, m);
            }
        }
    }

    public static void main(String[] args) {
        for (int run = 0; run < RUNS; run++) {
            run(run);
        }
        for (int reason = 1; reason <= 8; reason++) {
            if (SEEN[reason] == 0) {
                wrong++;
                System.out.println("no run came to the reason " + reason);
            }
        }
        System.out.println("ModelTests: " + (asked - wrong) + " of " + asked + " answers are as due");
        if (wrong != 0) {
            System.exit(1);
        }
    }
}
