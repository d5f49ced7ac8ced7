/** For each promise of the document: ordinary inputs, the edges that it names, and wrong inputs. */
public final class PromiseTests {
    private static final int NONE = QuarryRopes.NONE;
    private static final int BAD = QuarryRopes.BAD;
    private static final int REFUSED = QuarryRopes.REFUSED;
    private static final int NOTHING = QuarryRopes.NOTHING;

    private static int promise = 0;
    private static int asked = 0;
    private static int wrong = 0;

    private static void due(String call, double got, double want) {
        asked++;
        if (got != want) {
            wrong++;
            System.out.println("promise " + promise + ": " + call + " answered " + got + ", due is " + want);
        }
    }

    private static void dueLine(QuarryRopes x, String call, int length, String want) {
        due(call, length, want.length());
        String got = line(x);
        asked++;
        if (!got.equals(want)) {
            wrong++;
            System.out.println("promise " + promise + ": " + call + " wrote " + got + ", due is " + want);
        }
    }

    private static void dueAll(QuarryRopes x, String want) {
        dueLine(x, "tellRopes()", x.tellRopes(), want);
    }

    private static void dueReason(QuarryRopes x, int reason, int detail) {
        due("reason(0, false)", x.reason(0, false), reason);
        due("reason(0, true)", x.reason(0, true), detail);
        due("reason(1, false)", x.reason(1, false), NOTHING);
        due("reason(1, true)", x.reason(1, true), NOTHING);
    }

    private static String line(QuarryRopes x) {
        StringBuilder text = new StringBuilder();
        for (int index = 0; x.written(index) != NONE; index++) {
            text.append((char) x.written(index));
        }
        return text.toString();
    }

    private static void type(QuarryRopes x, String text) {
        for (int index = 0; index < text.length(); index++) {
            x.append(text.charAt(index));
        }
    }

    private static int read(QuarryRopes x, String text) {
        type(x, text);
        return x.read();
    }

    private static QuarryRopes blocks(int... weights) {
        QuarryRopes x = new QuarryRopes();
        for (int weight : weights) {
            x.block(weight);
        }
        return x;
    }

    /** Blocks 0 to 3, each hung on the one before; ropes 0-1-2 and 3, after 2 turns. */
    private static QuarryRopes chain() {
        QuarryRopes x = blocks(5, 7, 9, 11);
        x.hang(1, 0);
        x.hang(2, 1);
        x.hang(3, 2);
        return x;
    }

    /** The chain, walked down and to its root: ropes 0 and 1-2-3, the latter as ((1(2))3), after 6 turns. */
    private static QuarryRopes walked() {
        QuarryRopes x = chain();
        x.walk(3);
        x.walk(0);
        return x;
    }

    private static void newObject() {
        QuarryRopes x = new QuarryRopes();
        for (int what = 0; what <= 12; what++) {
            due("account(" + what + ")", x.account(what), 0);
        }
        due("fault()", x.fault(), NOTHING);
        due("reason(0, false)", x.reason(0, false), NOTHING);
        due("written(0)", x.written(0), NONE);
        due("ropes()", x.ropes(), 0);
        due("isWell()", x.isWell(), 1);
        due("undo()", x.undo(), NOTHING);
        due("restore()", x.restore(), NOTHING);
        due("blockOf(0, 0)", x.blockOf(0, 0), NONE);
        due("read()", x.read(), BAD);
        due("fault()", x.fault(), 0);
    }

    private static void clear() {
        QuarryRopes x = chain();
        x.sledge(3);
        x.pull();
        x.cut(1);
        x.save();
        read(x, "wa1");
        x.hang(3, 3);
        x.tellTree(0);
        type(x, "pu");
        due("clear()", x.clear(), 4);
        for (int what = 0; what <= 12; what++) {
            due("account(" + what + ")", x.account(what), what == 11 ? 2 : 0);
        }
        due("undo()", x.undo(), NOTHING);
        due("fault()", x.fault(), 2);
        due("reason(0, false)", x.reason(0, false), 2);
        due("written(0)", x.written(0), '(');
        due("blockOf(0, 0)", x.blockOf(0, 0), NONE);
        due("sledgeOf(0, 0)", x.sledgeOf(0, 0), NONE);
        due("block(3)", x.block(3), 0);
        due("blockOf(0, 1)", x.blockOf(0, 1), NOTHING);
        due("clear()", x.clear(), 1);
        due("clear()", x.clear(), 0);
        due("restore()", x.restore(), 4);
        due("blockOf(3, 0)", x.blockOf(3, 0), 11);
    }

    private static void append() {
        QuarryRopes x = new QuarryRopes();
        due("append((char) 31)", x.append((char) 31), BAD);
        due("append((char) 127)", x.append((char) 127), BAD);
        due("append((char) 0)", x.append((char) 0), BAD);
        due("append((char) 65535)", x.append((char) 65535), BAD);
        due("append((char) 32)", x.append((char) 32), 1);
        due("append((char) 126)", x.append((char) 126), 2);
        for (int length = 3; length <= 60; length++) {
            due("append('a')", x.append('a'), length);
        }
        due("append('a')", x.append('a'), BAD);
        due("account(11)", x.account(11), 60);
        due("undo()", x.undo(), NOTHING);
    }

    private static void block() {
        QuarryRopes x = new QuarryRopes();
        due("block(-1)", x.block(-1), BAD);
        due("block(100)", x.block(100), BAD);
        due("block(0)", x.block(0), 0);
        due("block(99)", x.block(99), 1);
        due("account(12)", x.account(12), 2);
        due("blockOf(1, 0)", x.blockOf(1, 0), 99);
        due("blockOf(1, 1)", x.blockOf(1, 1), NOTHING);
        due("ropes()", x.ropes(), 2);
        for (int number = 2; number < 16; number++) {
            due("block(1)", x.block(1), number);
        }
        due("reason(0, false)", x.reason(0, false), NOTHING);
        due("block(1)", x.block(1), REFUSED);
        dueReason(x, 1, 16);
        due("block(100)", x.block(100), BAD);
        due("account(0)", x.account(0), 16);
    }

    private static void hang() {
        QuarryRopes x = blocks(1, 2, 3, 4);
        due("hang(4, 0)", x.hang(4, 0), NONE);
        due("hang(0, 4)", x.hang(0, 4), NONE);
        due("hang(-1, 0)", x.hang(-1, 0), NONE);
        due("hang(0, 0)", x.hang(0, 0), REFUSED);
        dueReason(x, 3, 0);
        due("hang(2, 1)", x.hang(2, 1), 1);
        dueAll(x, "0 1 2 3");
        due("account(4)", x.account(4), 2);
        due("hang(2, 0)", x.hang(2, 0), REFUSED);
        dueReason(x, 2, 1);
        due("hang(2, 2)", x.hang(2, 2), REFUSED);
        dueReason(x, 2, 1);
        due("hang(1, 2)", x.hang(1, 2), REFUSED);
        dueReason(x, 3, 1);
        due("account(4)", x.account(4), 2);
        due("hang(3, 2)", x.hang(3, 2), 2);
        dueAll(x, "0 1-2 3");
        due("hang(1, 0)", x.hang(1, 0), 1);
        dueAll(x, "0 1 2 3");
        due("account(5)", x.account(5), 2);
        due("account(6)", x.account(6), 3);
        due("blockOf(3, 2)", x.blockOf(3, 2), 3);
        due("root(3)", x.root(3), 0);
    }

    private static void cut() {
        QuarryRopes x = chain();
        due("cut(4)", x.cut(4), NONE);
        due("cut(-1)", x.cut(-1), NONE);
        due("cut(0)", x.cut(0), REFUSED);
        dueReason(x, 4, 0);
        due("account(4)", x.account(4), 6);
        due("cut(3)", x.cut(3), 2);
        dueAll(x, "0-1-2 3");
        dueLine(x, "tellTree(2)", x.tellTree(2), "(((0)1)2)");
        due("blockOf(3, 1)", x.blockOf(3, 1), NOTHING);
        due("cut(1)", x.cut(1), 0);
        dueAll(x, "0 1 2 3");
        due("root(2)", x.root(2), 1);
        due("account(1)", x.account(1), 3);
        due("account(4)", x.account(4), 8);
        due("account(7)", x.account(7), 2);
        due("cut(3)", x.cut(3), REFUSED);
        dueReason(x, 4, 3);
        due("hang(3, 0)", x.hang(3, 0), 1);
    }

    private static void walk() {
        QuarryRopes x = chain();
        due("walk(4)", x.walk(4), NONE);
        due("walk(-1)", x.walk(-1), NONE);
        due("walk(3)", x.walk(3), 32);
        dueLine(x, "tellTree(0)", x.tellTree(0), "((((0)1)2)3)");
        due("account(5)", x.account(5), 3);
        due("walk(0)", x.walk(0), 5);
        dueLine(x, "tellTree(3)", x.tellTree(3), "((1(2))3)");
        dueLine(x, "tellTree(0)", x.tellTree(0), "(0)");
        due("account(5)", x.account(5), 6);
        due("walk(2)", x.walk(2), 21);
        dueLine(x, "tellTree(0)", x.tellTree(0), "((0(1))2)");
        dueAll(x, "0-1-2 3");
        due("account(5)", x.account(5), 9);
        due("walk(2)", x.walk(2), 21);
        due("account(5)", x.account(5), 9);
        due("account(4)", x.account(4), 10);
        due("account(12)", x.account(12), 8);
    }

    private static void up() {
        QuarryRopes x = chain();
        due("up(4)", x.up(4), NONE);
        due("up(-1)", x.up(-1), NONE);
        due("up(3)", x.up(3), 0);
        dueLine(x, "tellTree(3)", x.tellTree(3), "(0((1(2))3))");
        dueAll(x, "0-1-2-3");
        due("account(4)", x.account(4), 7);
        due("account(5)", x.account(5), 6);
        due("up(0)", x.up(0), 0);
        dueAll(x, "0 1-2-3");
        due("account(5)", x.account(5), 6);
    }

    private static void weigh() {
        QuarryRopes x = walked();
        x.sledge(2);
        due("weigh(4, 100)", x.weigh(4, 100), NONE);
        due("weigh(2, 100)", x.weigh(2, 100), BAD);
        due("weigh(2, -1)", x.weigh(2, -1), BAD);
        due("weigh(2, 9)", x.weigh(2, 9), REFUSED);
        dueReason(x, 5, 9);
        due("weigh(2, 99)", x.weigh(2, 99), 9);
        due("blockOf(2, 0)", x.blockOf(2, 0), 99);
        due("sledgeOf(0, 1)", x.sledgeOf(0, 1), 9);
        due("account(4)", x.account(4), 8);
        dueAll(x, "0 1-2-3");
        due("weigh(2, 0)", x.weigh(2, 0), 99);
        due("sum(3)", x.sum(3), 23);
        due("sumAgain(3)", x.sumAgain(3), 23);
    }

    private static void sledge() {
        QuarryRopes x = blocks(4, 6);
        due("sledge(2)", x.sledge(2), NONE);
        due("sledge(-1)", x.sledge(-1), NONE);
        due("sledge(1)", x.sledge(1), 0);
        due("pull()", x.pull(), 1);
        due("sledge(1)", x.sledge(1), 1);
        due("sledge(0)", x.sledge(0), 2);
        due("sledgeOf(2, 1)", x.sledgeOf(2, 1), 4);
        due("account(4)", x.account(4), 1);
        due("sledge(0)", x.sledge(0), REFUSED);
        dueReason(x, 1, 3);
        due("sledge(2)", x.sledge(2), NONE);
    }

    private static void pull() {
        QuarryRopes x = chain();
        due("pull()", x.pull(), REFUSED);
        dueReason(x, 6, 0);
        x.sledge(1);
        x.sledge(0);
        x.sledge(2);
        due("pull()", x.pull(), 1);
        due("account(4)", x.account(4), 9);
        dueAll(x, "0-1-2 3");
        due("sledgeOf(0, 0)", x.sledgeOf(0, 0), 0);
        due("sledgeOf(1, 3)", x.sledgeOf(1, 3), 1);
        due("sledgeOf(2, 0)", x.sledgeOf(2, 0), 1);
        due("pull()", x.pull(), 1);
        due("account(4)", x.account(4), 11);
        due("blockOf(0, 6)", x.blockOf(0, 6), 1);
        due("pull()", x.pull(), 1);
        due("pull()", x.pull(), REFUSED);
        dueReason(x, 6, 3);
        due("sledgeOf(1, 2)", x.sledgeOf(1, 2), 1);
        due("sledgeOf(0, 2)", x.sledgeOf(0, 2), 2);
        due("sledgeOf(2, 2)", x.sledgeOf(2, 2), 3);
        due("account(4)", x.account(4), 12);
    }

    private static void pullTogether() {
        QuarryRopes x = chain();
        x.sledge(3);
        x.sledge(3);
        due("blockOf(3, 6)", x.blockOf(3, 6), 2);
        x.pull();
        due("blockOf(2, 6)", x.blockOf(2, 6), 2);
        x.cut(2);
        due("blockOf(2, 6)", x.blockOf(2, 6), 2);
        due("pull()", x.pull(), 2);
        due("blockOf(2, 6)", x.blockOf(2, 6), 0);
    }

    private static void readTexts() {
        QuarryRopes x = new QuarryRopes();
        due("read", read(x, "block 9;block 08;block 7;hang 1 0;hang 2 1;sledge 2"), 6);
        due("account(11)", x.account(11), 0);
        due("account(12)", x.account(12), 1);
        due("read", read(x, "walk 2;up 1;weigh 0 3;pull;cut 2"), 5);
        due("blockOf(0, 0)", x.blockOf(0, 0), 3);
        due("blockOf(2, 1)", x.blockOf(2, 1), NOTHING);
        due("sledgeOf(0, 0)", x.sledgeOf(0, 0), 1);
        due("account(4)", x.account(4), 8);
        due("read", read(x, "up 0;up 0;up 0;up 0;up 0;up 0;up 0;up 0;up 0;up 0;up 0;up 0"), 12);
        due("account(12)", x.account(12), 3);
        due("undo()", x.undo(), 2);
        due("account(4)", x.account(4), 8);
    }

    private static void readRefused() {
        QuarryRopes x = blocks(4, 6);
        due("read", read(x, "hang 0 1;walk 0;hang 0 1;block 1"), REFUSED);
        due("reason(0, false)", x.reason(0, false), 7);
        due("reason(0, true)", x.reason(0, true), 2);
        due("reason(1, false)", x.reason(1, false), 2);
        due("reason(1, true)", x.reason(1, true), 1);
        due("account(11)", x.account(11), 0);
        for (int what = 4; what <= 7; what++) {
            due("account(" + what + ")", x.account(what), 0);
        }
        due("account(12)", x.account(12), 2);
        dueAll(x, "0 1");
        due("blockOf(0, 1)", x.blockOf(0, 1), NOTHING);
        due("read", read(x, "block 5;walk 2;walk 3;cut 0"), REFUSED);
        dueReason(x, 8, 2);
        due("account(0)", x.account(0), 2);
        due("read", read(x, "cut 0;walk 9"), REFUSED);
        due("reason(0, false)", x.reason(0, false), 7);
        due("reason(1, false)", x.reason(1, false), 4);
        due("reason(1, true)", x.reason(1, true), 0);
        due("read", read(x, "pull"), REFUSED);
        due("reason(1, false)", x.reason(1, false), 6);
        due("undo()", x.undo(), 1);
        due("account(0)", x.account(0), 1);
    }

    private static void fault() {
        String[] texts = {"", "x", "b", "blick 1", "block", "block ", "block x", "block 123", "block 1 ", "block 1;",
            "block 1; block 2", "hang 1", "hang 1 ", "hang 1 x", "hang 1 2 3", "hang 12 345", "w", "wx", "wexgh", "weigh 1;",
            "walk  1", "pull ", "pul", "pulls", "pull;pull;", "pull;;pull", "up -1", "sledge 1,", "sledgE 1", "Cut 1", "walk 1;w"};
        int[] faults = {0, 0, 1, 2, 5, 6, 6, 8, 7, 8,
            8, 6, 7, 7, 8, 10, 1, 1, 2, 7,
            5, 4, 3, 4, 10, 5, 3, 8, 5, 0, 8};
        for (int number = 0; number < texts.length; number++) {
            QuarryRopes x = new QuarryRopes();
            due("fault()", x.fault(), NOTHING);
            due("read() of " + texts[number], read(x, texts[number]), BAD);
            due("fault() of " + texts[number], x.fault(), faults[number]);
            due("account(11)", x.account(11), 0);
            due("read() of block 1", read(x, "block 1"), 1);
            due("fault() of " + texts[number], x.fault(), faults[number]);
            due("reason(0, false)", x.reason(0, false), NOTHING);
        }
        QuarryRopes x = new QuarryRopes();
        due("read", read(x, "cut 1;cut"), BAD);
        due("fault()", x.fault(), 9);
        due("read", read(x, "up 0;up 0;up 0;up 0;up 0;up 0;up 0;up 0;up 0;up 0;up 0;up 0;"), BAD);
        due("fault()", x.fault(), 60);
    }

    private static void reason() {
        QuarryRopes x = blocks(4, 6);
        due("reason(-1, false)", x.reason(-1, false), BAD);
        due("reason(2, true)", x.reason(2, true), BAD);
        due("reason(0, true)", x.reason(0, true), NOTHING);
        due("reason(1, true)", x.reason(1, true), NOTHING);
        read(x, "weigh 1 6");
        due("reason(0, false)", x.reason(0, false), 7);
        due("reason(0, true)", x.reason(0, true), 0);
        due("reason(1, false)", x.reason(1, false), 5);
        due("reason(1, true)", x.reason(1, true), 6);
        x.undo();
        x.block(1);
        due("reason(1, true)", x.reason(1, true), 6);
        x.cut(0);
        dueReason(x, 4, 0);
        x.walk(7);
        dueReason(x, 4, 0);
    }

    private static void blockOf() {
        QuarryRopes x = blocks(5, 7, 9, 11, 13, 15);
        x.hang(1, 0);
        x.hang(2, 0);
        x.hang(3, 2);
        x.hang(4, 2);
        x.sledge(2);
        x.sledge(0);
        int[][] want = {{5, NOTHING, 0, 2, 4, 5, 1}, {7, 0, 1, 0, 0, 5, 0}, {9, 0, 1, 2, 2, 5, 1},
            {11, 2, 2, 0, 0, 5, 0}, {13, 2, 2, 0, 0, 5, 0}, {15, NOTHING, 0, 0, 0, 1, 0}};
        for (int block = 0; block < want.length; block++) {
            for (int what = 0; what < 7; what++) {
                due("blockOf(" + block + ", " + what + ")", x.blockOf(block, what), want[block][what]);
            }
        }
        x.pull();
        due("blockOf(0, 6)", x.blockOf(0, 6), 1);
        due("blockOf(0, 7)", x.blockOf(0, 7), BAD);
        due("blockOf(0, -1)", x.blockOf(0, -1), BAD);
        due("blockOf(6, 7)", x.blockOf(6, 7), NONE);
        due("blockOf(-1, 0)", x.blockOf(-1, 0), NONE);
        due("account(12)", x.account(12), 8);
    }

    private static void treeOf() {
        QuarryRopes x = walked();
        int[][] want = {{NOTHING, NOTHING, NOTHING, 0, 0, 1, 5}, {NOTHING, 2, 3, 3, 1, 2, 16},
            {NOTHING, NOTHING, 1, 3, 2, 1, 9}, {1, NOTHING, NOTHING, 3, 0, 3, 27}};
        for (int block = 0; block < want.length; block++) {
            for (int what = 0; what < 7; what++) {
                due("treeOf(" + block + ", " + what + ")", x.treeOf(block, what), want[block][what]);
            }
        }
        due("treeOf(0, 7)", x.treeOf(0, 7), BAD);
        due("treeOf(0, -1)", x.treeOf(0, -1), BAD);
        due("treeOf(4, 7)", x.treeOf(4, 7), NONE);
        due("treeOf(-1, 0)", x.treeOf(-1, 0), NONE);
        due("account(5)", x.account(5), 6);
    }

    private static void ropePlaces() {
        QuarryRopes x = walked();
        promise = 17;
        for (int block = 1; block < 4; block++) {
            for (int place = 0; place < 3; place++) {
                due("ropeOf(" + block + ", " + place + ")", x.ropeOf(block, place), place + 1);
            }
            due("ropeOf(" + block + ", 3)", x.ropeOf(block, 3), NONE);
            due("ropeOf(" + block + ", -1)", x.ropeOf(block, -1), NONE);
        }
        due("ropeOf(0, 0)", x.ropeOf(0, 0), 0);
        due("ropeOf(0, 1)", x.ropeOf(0, 1), NONE);
        due("ropeOf(0, 2147483647)", x.ropeOf(0, 2147483647), NONE);
        due("ropeOf(4, 0)", x.ropeOf(4, 0), NONE);
        due("ropeOf(-1, 0)", x.ropeOf(-1, 0), NONE);
        promise = 18;
        int[] places = {0, 0, 1, 2};
        for (int block = 0; block < 4; block++) {
            due("placeOf(" + block + ")", x.placeOf(block), places[block]);
        }
        due("placeOf(4)", x.placeOf(4), NONE);
        due("placeOf(-1)", x.placeOf(-1), NONE);
        promise = 19;
        due("ropes()", x.ropes(), 2);
        x.block(1);
        due("ropes()", x.ropes(), 3);
        x.walk(3);
        due("ropes()", x.ropes(), 2);
        due("exposings", x.account(4), 9);
    }

    private static void ropesAbove() {
        QuarryRopes x = blocks(5, 7, 9, 11, 13);
        x.hang(1, 0);
        x.hang(2, 1);
        x.hang(3, 2);
        x.hang(4, 1);
        dueAll(x, "0-1 2 3 4");
        int[] want = {1, 1, 2, 3, 2};
        for (int block = 0; block < want.length; block++) {
            due("ropesAbove(" + block + ")", x.ropesAbove(block), want[block]);
        }
        due("ropesAbove(5)", x.ropesAbove(5), NONE);
        due("ropesAbove(-1)", x.ropesAbove(-1), NONE);
    }

    private static void turnsFor() {
        QuarryRopes x = walked();
        int[] want = {0, 2, 3, 1};
        for (int block = 0; block < want.length; block++) {
            due("turnsFor(" + block + ")", x.turnsFor(block), want[block]);
        }
        due("turnsFor(4)", x.turnsFor(4), NONE);
        due("turnsFor(-1)", x.turnsFor(-1), NONE);
        due("account(4)", x.account(4), 8);
        due("account(5)", x.account(5), 6);
        dueAll(x, "0 1-2-3");
        for (int block = 0; block < want.length; block++) {
            QuarryRopes y = walked();
            y.walk(block);
            due("turns of walk(" + block + ")", y.account(5) - 6, want[block]);
        }
    }

    private static void twoWays() {
        QuarryRopes x = blocks(5, 7, 9, 11, 13, 15, 17);
        x.hang(1, 0);
        x.hang(2, 1);
        x.hang(3, 2);
        x.hang(4, 1);
        x.hang(6, 5);
        x.walk(3);
        x.walk(1);
        int[] sums = {5, 12, 21, 32, 25, 15, 32};
        int[] roots = {0, 0, 0, 0, 0, 5, 5};
        int[][] joints = {{0, 0, 0, 0, 0, NOTHING, NOTHING}, {0, 1, 1, 1, 1, NOTHING, NOTHING},
            {0, 1, 2, 2, 1, NOTHING, NOTHING}, {0, 1, 2, 3, 1, NOTHING, NOTHING},
            {0, 1, 1, 1, 4, NOTHING, NOTHING}, {NOTHING, NOTHING, NOTHING, NOTHING, NOTHING, 5, 5},
            {NOTHING, NOTHING, NOTHING, NOTHING, NOTHING, 5, 6}};
        for (int walks = 0; walks < 8; walks++) {
            for (int one = 0; one < 7; one++) {
                promise = 22;
                due("sum(" + one + ")", x.sum(one), sums[one]);
                promise = 23;
                due("sumAgain(" + one + ")", x.sumAgain(one), sums[one]);
                promise = 24;
                due("root(" + one + ")", x.root(one), roots[one]);
                promise = 25;
                due("rootAgain(" + one + ")", x.rootAgain(one), roots[one]);
                for (int other = 0; other < 7; other++) {
                    promise = 26;
                    due("joint(" + one + ", " + other + ")", x.joint(one, other), joints[one][other]);
                    promise = 27;
                    due("jointAgain(" + one + ", " + other + ")", x.jointAgain(one, other), joints[one][other]);
                }
            }
            promise = 33;
            due("isWell()", x.isWell(), 1);
            x.walk(walks % 7);
        }
    }

    /** All blocks in one hang, each on the one before, as 16 ropes or, walked down, as one. */
    private static void deepest() {
        QuarryRopes x = new QuarryRopes();
        for (int block = 0; block < 16; block++) {
            x.block(block);
        }
        for (int block = 15; block > 0; block--) {
            x.hang(block, block - 1);
        }
        promise = 20;
        due("ropesAbove(15)", x.ropesAbove(15), 16);
        promise = 21;
        due("turnsFor(15)", x.turnsFor(15), 15);
        askDeepest(x);
        promise = 7;
        due("walk(15)", x.walk(15), 120);
        promise = 20;
        due("ropesAbove(15)", x.ropesAbove(15), 1);
        askDeepest(x);
        promise = 17;
        due("ropeOf(3, 15)", x.ropeOf(3, 15), 15);
        due("ropeOf(3, 16)", x.ropeOf(3, 16), NONE);
        promise = 18;
        due("placeOf(15)", x.placeOf(15), 15);
        promise = 16;
        due("treeOf(0, 3)", x.treeOf(0, 3), 15);
        due("treeOf(0, 4)", x.treeOf(0, 4), 1);
        due("treeOf(13, 4)", x.treeOf(13, 4), 9);
        due("treeOf(15, 5)", x.treeOf(15, 5), 16);
        due("treeOf(15, 6)", x.treeOf(15, 6), 120);
        promise = 31;
        dueAll(x, "0-1-2-3-4-5-6-7-8-9-10-11-12-13-14-15");
        promise = 11;
        x.sledge(15);
        for (int pulls = 1; pulls <= 16; pulls++) {
            due("pull()", x.pull(), pulls == 16 ? 1 : 0);
        }
        due("sledgeOf(0, 2)", x.sledgeOf(0, 2), 16);
        due("pull()", x.pull(), REFUSED);
    }

    private static void askDeepest(QuarryRopes x) {
        promise = 15;
        due("blockOf(15, 2)", x.blockOf(15, 2), 15);
        due("blockOf(0, 4)", x.blockOf(0, 4), 15);
        due("blockOf(15, 5)", x.blockOf(15, 5), 16);
        promise = 22;
        due("sum(15)", x.sum(15), 120);
        promise = 23;
        due("sumAgain(15)", x.sumAgain(15), 120);
        promise = 24;
        due("root(15)", x.root(15), 0);
        promise = 25;
        due("rootAgain(15)", x.rootAgain(15), 0);
        promise = 26;
        due("joint(15, 0)", x.joint(15, 0), 0);
        due("joint(0, 15)", x.joint(0, 15), 0);
        due("joint(15, 14)", x.joint(15, 14), 14);
        promise = 27;
        due("jointAgain(15, 0)", x.jointAgain(15, 0), 0);
        due("jointAgain(0, 15)", x.jointAgain(0, 15), 0);
        due("jointAgain(15, 14)", x.jointAgain(15, 14), 14);
        promise = 33;
        due("isWell()", x.isWell(), 1);
        promise = 34;
        due("meanDepth()", x.meanDepth(), 7.5f);
    }

    private static void twoWaysWithoutBlocks() {
        QuarryRopes x = blocks(5, 7);
        for (int block = -1; block <= 2; block += 3) {
            promise = 22;
            due("sum(" + block + ")", x.sum(block), NONE);
            promise = 23;
            due("sumAgain(" + block + ")", x.sumAgain(block), NONE);
            promise = 24;
            due("root(" + block + ")", x.root(block), NONE);
            promise = 25;
            due("rootAgain(" + block + ")", x.rootAgain(block), NONE);
            promise = 26;
            due("joint(" + block + ", 0)", x.joint(block, 0), NONE);
            due("joint(0, " + block + ")", x.joint(0, block), NONE);
            promise = 27;
            due("jointAgain(" + block + ", 0)", x.jointAgain(block, 0), NONE);
            due("jointAgain(0, " + block + ")", x.jointAgain(0, block), NONE);
        }
    }

    private static void sledgeOf() {
        QuarryRopes x = chain();
        x.sledge(1);
        x.sledge(3);
        x.weigh(1, 50);
        x.pull();
        x.pull();
        int[][] want = {{0, 7, 2, 1}, {1, 11, 2, 0}};
        for (int sledge = 0; sledge < 2; sledge++) {
            for (int what = 0; what < 4; what++) {
                due("sledgeOf(" + sledge + ", " + what + ")", x.sledgeOf(sledge, what), want[sledge][what]);
            }
        }
        due("sledgeOf(0, 4)", x.sledgeOf(0, 4), BAD);
        due("sledgeOf(0, -1)", x.sledgeOf(0, -1), BAD);
        due("sledgeOf(2, 4)", x.sledgeOf(2, 4), NONE);
        due("sledgeOf(-1, 0)", x.sledgeOf(-1, 0), NONE);
    }

    private static void ranked() {
        QuarryRopes x = blocks(5, 7, 7, 9, 7, 0);
        x.hang(1, 4);
        int[] want = {3, 2, 4, 1, 0, 5, NONE};
        for (int place = 0; place < want.length; place++) {
            due("ranked(" + place + ")", x.ranked(place), want[place]);
        }
        due("ranked(-1)", x.ranked(-1), NONE);
        due("ranked(16)", x.ranked(16), NONE);
    }

    private static void tellTree() {
        QuarryRopes x = walked();
        dueLine(x, "tellTree(1)", x.tellTree(1), "((1(2))3)");
        due("tellTree(4)", x.tellTree(4), NONE);
        due("tellTree(-1)", x.tellTree(-1), NONE);
        due("written(0)", x.written(0), '(');
        dueLine(x, "tellTree(0)", x.tellTree(0), "(0)");
        QuarryRopes y = new QuarryRopes();
        StringBuilder left = new StringBuilder();
        for (int block = 0; block < 16; block++) {
            y.block(0);
            if (block > 0) {
                y.hang(block, block - 1);
            }
            left.insert(0, '(').append(block).append(')');
        }
        y.walk(15);
        dueLine(y, "tellTree(7)", y.tellTree(7), left.toString());
        due("written(54)", y.written(54), NONE);
        due("treeOf(0, 3)", y.treeOf(0, 3), 15);
        due("treeOf(0, 4)", y.treeOf(0, 4), 15);
        due("turnsFor(0)", y.turnsFor(0), 15);
        due("placeOf(0)", y.placeOf(0), 0);
    }

    private static void tellRopes() {
        QuarryRopes x = blocks(1, 2, 3);
        x.hang(0, 2);
        dueAll(x, "0 1 2");
        x.walk(0);
        dueAll(x, "1 2-0");
        x.tellTree(1);
        dueAll(x, "1 2-0");
        x.clear();
        dueAll(x, "");
    }

    private static void written() {
        QuarryRopes x = blocks(1);
        due("written(0)", x.written(0), NONE);
        x.tellTree(0);
        due("written(-1)", x.written(-1), NONE);
        due("written(1)", x.written(1), '0');
        due("written(2)", x.written(2), ')');
        due("written(3)", x.written(3), NONE);
        due("written(2147483647)", x.written(2147483647), NONE);
        x.undo();
        due("written(2)", x.written(2), ')');
        x.tellRopes();
        due("written(0)", x.written(0), NONE);
    }

    private static void shares() {
        QuarryRopes x = new QuarryRopes();
        promise = 34;
        due("meanDepth()", x.meanDepth(), 0.0f);
        promise = 35;
        due("rootShare()", x.rootShare(), 0.0);
        x.block(1);
        x.block(1);
        x.block(1);
        x.hang(1, 0);
        promise = 34;
        due("meanDepth()", x.meanDepth(), 1.0f / 3.0f);
        promise = 35;
        due("rootShare()", x.rootShare(), 2.0 / 3.0);
        x.hang(2, 1);
        promise = 34;
        due("meanDepth()", x.meanDepth(), 1.0f);
        promise = 35;
        due("rootShare()", x.rootShare(), 1.0 / 3.0);
    }

    private static void account() {
        QuarryRopes x = walked();
        x.block(30);
        x.sledge(0);
        x.sledge(4);
        x.sledge(2);
        x.pull();
        x.cut(1);
        type(x, "up ");
        int[] want = {5, 3, 5, 62, 12, 11, 3, 1, 1, 2, 35, 3, 8};
        for (int what = 0; what < want.length; what++) {
            due("account(" + what + ")", x.account(what), want[what]);
        }
        due("account(13)", x.account(13), BAD);
        due("account(-1)", x.account(-1), BAD);
    }

    private static void undo() {
        QuarryRopes x = blocks(5, 7, 9);
        x.hang(1, 0);
        x.hang(2, 1);
        x.sledge(2);
        x.weigh(2, 1);
        x.pull();
        x.cut(1);
        x.up(2);
        x.walk(2);
        due("account(12)", x.account(12), 8);
        x.walk(3);
        x.hang(9, 9);
        type(x, "pull");
        x.tellRopes();
        due("undo()", x.undo(), 7);
        due("undo()", x.undo(), 6);
        due("account(7)", x.account(7), 1);
        due("undo()", x.undo(), 5);
        due("account(7)", x.account(7), 0);
        due("blockOf(1, 1)", x.blockOf(1, 1), 0);
        due("account(4)", x.account(4), 5);
        due("account(5)", x.account(5), 2);
        due("undo()", x.undo(), 4);
        due("sledgeOf(0, 0)", x.sledgeOf(0, 0), 2);
        due("sledgeOf(0, 2)", x.sledgeOf(0, 2), 0);
        due("undo()", x.undo(), 3);
        due("blockOf(2, 0)", x.blockOf(2, 0), 9);
        due("undo()", x.undo(), 2);
        due("sledgeOf(0, 0)", x.sledgeOf(0, 0), NONE);
        due("undo()", x.undo(), 1);
        due("undo()", x.undo(), 0);
        due("account(6)", x.account(6), 0);
        due("undo()", x.undo(), NOTHING);
        due("account(0)", x.account(0), 3);
        due("account(11)", x.account(11), 4);
        due("written(0)", x.written(0), '0');
        due("block(1)", x.block(1), 3);
        due("undo()", x.undo(), 0);
        due("blockOf(3, 0)", x.blockOf(3, 0), NONE);
    }

    private static void savedAndRestored() {
        promise = 39;
        QuarryRopes x = chain();
        due("restore()", x.restore(), NOTHING);
        due("account(12)", x.account(12), 7);
        x.sledge(2);
        promise = 38;
        due("save()", x.save(), 4);
        due("account(12)", x.account(12), 8);
        dueAll(x, "0-1-2 3");
        promise = 39;
        x.pull();
        x.cut(1);
        x.weigh(0, 1);
        x.block(8);
        x.tellTree(4);
        read(x, "cut");
        x.cut(1);
        type(x, "up");
        due("restore()", x.restore(), 4);
        due("undo()", x.undo(), NOTHING);
        due("account(4)", x.account(4), 6);
        due("account(5)", x.account(5), 2);
        due("account(6)", x.account(6), 3);
        due("account(7)", x.account(7), 0);
        due("account(11)", x.account(11), 2);
        due("blockOf(0, 0)", x.blockOf(0, 0), 5);
        due("sledgeOf(0, 0)", x.sledgeOf(0, 0), 2);
        due("written(1)", x.written(1), '4');
        due("fault()", x.fault(), 3);
        dueReason(x, 4, 1);
        x.cut(2);
        due("undo()", x.undo(), 0);
        due("restore()", x.restore(), 4);
        x.clear();
        promise = 38;
        due("save()", x.save(), 0);
        promise = 39;
        x.block(1);
        due("restore()", x.restore(), 0);
        due("account(0)", x.account(0), 0);
    }

    private static void firstPromises() {
        promise = 1;
        newObject();
        promise = 2;
        clear();
        promise = 3;
        append();
        promise = 4;
        block();
        promise = 5;
        hang();
        promise = 6;
        cut();
        promise = 7;
        walk();
        promise = 8;
        up();
        promise = 9;
        weigh();
        promise = 10;
        sledge();
        promise = 11;
        pull();
        pullTogether();
        promise = 12;
        readTexts();
        readRefused();
        promise = 13;
        fault();
        promise = 14;
        reason();
    }

    public static void main(String[] args) {
        firstPromises();
        promise = 15;
        blockOf();
        promise = 16;
        treeOf();
        ropePlaces();
        promise = 20;
        ropesAbove();
        promise = 21;
        turnsFor();
        twoWays();
        deepest();
        twoWaysWithoutBlocks();
        promise = 28;
        sledgeOf();
        promise = 29;
        ranked();
        promise = 30;
        tellTree();
        promise = 31;
        tellRopes();
        promise = 32;
        written();
        shares();
        promise = 36;
        account();
        promise = 37;
        undo();
        savedAndRestored();
        System.out.println("PromiseTests: " + (asked - wrong) + " of " + asked + " answers are as due");
        if (wrong != 0) {
            System.exit(1);
        }
    }
}
