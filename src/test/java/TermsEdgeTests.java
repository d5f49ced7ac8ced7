/** A test for each sentence of the document's terms, at the edges that it names; each quotes its sentence. */
public final class TermsEdgeTests extends Sentences {
    private static final int NONE = QuarryRopes.NONE;
    private static final int BAD = QuarryRopes.BAD;
    private static final int REFUSED = QuarryRopes.REFUSED;
    private static final int NOTHING = QuarryRopes.NOTHING;

    private static void whatItIs() {
        says("What it is", "An object is used for at most 512 calls after it has been made; what later calls answer is "
            + "free.");
        QuarryRopes x = blocks(7);
        for (int call = 2; call <= 511; call++) {
            due("walk(0) as call " + call, x.walk(0), 7);
        }
        due("account(4) as call 512", x.account(4), 510);
        QuarryRopes y = blocks(7);
        for (int call = 2; call <= 511; call++) {
            y.up(0);
        }
        due("undo() as call 512", y.undo(), 7);
    }

    private static void numbers() {
        says("Terms", "All numbers are whole, but where it is said; divisions are rounded down.");
        QuarryRopes x = chain();
        x.cut(2);
        due("meanDepth()", x.meanDepth(), 0.5f);
        due("rootShare()", x.rootShare(), 0.5);
        x.block(0);
        x.hang(4, 1);
        due("meanDepth()", x.meanDepth(), 0.8f);
        due("rootShare()", x.rootShare(), 0.4);
        says("Terms", "A sum along a rope is told alike.");
        QuarryRopes y = risen();
        int[] sums = {5, 12, 21, 32};
        for (int block = 0; block < 4; block++) {
            due("sum(" + block + ")", y.sum(block), sums[block]);
            due("sumAgain(" + block + ")", y.sumAgain(block), sums[block]);
        }
    }

    private static void atMost16Blocks() {
        says("Terms", "Blocks. At most 16 blocks come, numbered from 0, each with a weight from 0 to 99.");
        QuarryRopes x = new QuarryRopes();
        due("block(-1)", x.block(-1), BAD);
        due("block(100)", x.block(100), BAD);
        due("block(0)", x.block(0), 0);
        due("block(99)", x.block(99), 1);
        due("block(1)", x.block(1), 2);
        for (int number = 3; number < 15; number++) {
            x.block(98);
        }
        due("block(98) as the 16th", x.block(98), 15);
        due("block(98) as the 17th", x.block(98), REFUSED);
        due("account(0)", x.account(0), 16);
        due("blockOf(0, 0)", x.blockOf(0, 0), 0);
        due("blockOf(1, 0)", x.blockOf(1, 0), 99);
        due("blockOf(15, 0)", x.blockOf(15, 0), 98);
        due("blockOf(16, 0)", x.blockOf(16, 0), NONE);
        due("weigh(1, 0)", x.weigh(1, 0), 99);
        due("weigh(0, 99)", x.weigh(0, 99), 0);
    }

    private static void holders() {
        says("Terms", "A block hangs on another one, its holder, or on none, as at first; then it is a root.");
        QuarryRopes x = blocks(1, 2);
        due("blockOf(1, 1)", x.blockOf(1, 1), NOTHING);
        due("account(1)", x.account(1), 2);
        due("root(1)", x.root(1), 1);
        x.hang(1, 0);
        due("blockOf(1, 1)", x.blockOf(1, 1), 0);
        due("blockOf(0, 1)", x.blockOf(0, 1), NOTHING);
        due("account(1)", x.account(1), 1);
        x.cut(1);
        due("blockOf(1, 1)", x.blockOf(1, 1), NOTHING);
        due("account(1)", x.account(1), 2);
        says("Terms", "The blocks above a block are its holder, the holder of this one, and so on.");
        QuarryRopes y = deepest();
        due("blockOf(0, 4)", y.blockOf(0, 4), 15);
        due("blockOf(15, 4)", y.blockOf(15, 4), 0);
        due("sumAgain(15)", y.sumAgain(15), 120);
        due("joint(15, 0)", y.joint(15, 0), 0);
        says("Terms", "The depth of a block is how many are above it.");
        due("blockOf(0, 2)", y.blockOf(0, 2), 0);
        due("blockOf(1, 2)", y.blockOf(1, 2), 1);
        due("blockOf(15, 2)", y.blockOf(15, 2), 15);
    }

    private static void oneHang() {
        says("Terms", "Blocks are of one hang if they have the same root above them, or are it.");
        QuarryRopes x = blocks(1, 2, 3, 4, 5);
        x.hang(1, 0);
        x.hang(2, 0);
        x.hang(4, 3);
        due("joint(1, 2)", x.joint(1, 2), 0);
        due("joint(0, 2)", x.joint(0, 2), 0);
        due("joint(0, 0)", x.joint(0, 0), 0);
        due("joint(1, 4)", x.joint(1, 4), NOTHING);
        due("joint(0, 3)", x.joint(0, 3), NOTHING);
        dueRefusal(x, "hang(0, 2)", x.hang(0, 2), 3, 0);
        dueRefusal(x, "hang(0, 0)", x.hang(0, 0), 3, 0);
        int[] sizes = {3, 3, 3, 2, 2};
        for (int block = 0; block < 5; block++) {
            due("blockOf(" + block + ", 5)", x.blockOf(block, 5), sizes[block]);
        }
        due("hang(3, 2)", x.hang(3, 2), 2);
    }

    private static void ropes() {
        says("Terms", "Ropes. Each block is on one rope.");
        QuarryRopes x = blocks(1, 2, 3);
        x.hang(1, 0);
        x.hang(2, 0);
        x.walk(2);
        dueRopes(x, "0-2 1");
        x.walk(1);
        dueRopes(x, "0-1 2");
        says("Terms", "A rope is a row of blocks, each but the first one, which is its top, hanging on the one before it.");
        due("ropeOf(1, 0)", x.ropeOf(1, 0), 0);
        due("ropeOf(1, 1)", x.ropeOf(1, 1), 1);
        due("blockOf(1, 1)", x.blockOf(1, 1), 0);
        due("ropeOf(2, 0)", x.ropeOf(2, 0), 2);
        due("blockOf(2, 1)", x.blockOf(2, 1), 0);
        says("Terms", "A block that comes is a rope alone.");
        QuarryRopes y = new QuarryRopes();
        due("ropes()", y.ropes(), 0);
        for (int block = 0; block < 16; block++) {
            y.block(1);
            due("ropes()", y.ropes(), block + 1);
            due("ropeOf(" + block + ", 0)", y.ropeOf(block, 0), block);
            due("ropeOf(" + block + ", 1)", y.ropeOf(block, 1), NONE);
            due("treeOf(" + block + ", 5)", y.treeOf(block, 5), 1);
        }
    }

    private static void trees() {
        says("Terms", "Trees. The blocks of a rope stand in a tree: one of them, its head, has no upper one, and each other one "
            + "is the left one or the right one of its upper one; no block has two left or two right ones.");
        QuarryRopes x = risen();
        dueTree(x, 3, "(0((1(2))3))");
        int[][] want = {{NOTHING, 3, NOTHING, 0}, {NOTHING, 2, 3, 0}, {NOTHING, NOTHING, 1, 0}, {1, NOTHING, 0, 0}};
        for (int block = 0; block < 4; block++) {
            for (int what = 0; what < 4; what++) {
                due("treeOf(" + block + ", " + what + ")", x.treeOf(block, what), want[block][what]);
            }
        }
        QuarryRopes alone = blocks(9);
        due("treeOf(0, 0)", alone.treeOf(0, 0), NOTHING);
        due("treeOf(0, 1)", alone.treeOf(0, 1), NOTHING);
        due("treeOf(0, 2)", alone.treeOf(0, 2), NOTHING);
        due("treeOf(0, 3)", alone.treeOf(0, 3), 0);
        says("Terms", "All blocks that are left of a block, that is, its left one and all below this in the tree, are ahead of it "
            + "on the rope, and all that are right of it are behind it.");
        for (int place = 0; place < 4; place++) {
            due("ropeOf(2, " + place + ")", x.ropeOf(2, place), place);
            due("placeOf(" + place + ")", x.placeOf(place), place);
        }
        x.walk(3);
        dueTree(x, 0, "((0(1(2)))3)");
        dueRopes(x, "0-1-2-3");
    }

    private static void turning() {
        says("Terms", "Turning. To turn a block that has an upper one lets it take the place of that one in the tree, also as the "
            + "left or the right one of the upper one of that one.");
        QuarryRopes x = risen();
        x.walk(2);
        dueTree(x, 2, "((0(1))2)");
        due("account(5)", x.account(5), 9);
        due("treeOf(2, 2)", x.treeOf(2, 2), NOTHING);
        due("treeOf(0, 2)", x.treeOf(0, 2), 2);
        QuarryRopes y = chain();
        y.walk(3);
        y.up(3);
        dueTree(y, 3, "(0((1(2))3))");
        due("treeOf(3, 0)", y.treeOf(3, 0), 1);
        due("treeOf(0, 1)", y.treeOf(0, 1), 3);
        says("Terms", "If it was the left one, the upper one gets its right one, if any, as its left one, and becomes its right one; "
            + "if it was the right one, it is the other way round.");
        QuarryRopes left = blocks(5, 7);
        left.hang(1, 0);
        left.walk(1);
        dueTree(left, 0, "((0)1)");
        left.up(1);
        dueTree(left, 0, "(0(1))");
        left.walk(1);
        dueTree(left, 0, "((0)1)");
        QuarryRopes both = risen();
        both.walk(3);
        dueTree(both, 3, "((0(1(2)))3)");
        both.up(3);
        dueTree(both, 3, "(0((1(2))3))");
        both.walk(1);
        dueTree(both, 1, "((0)1)");
        dueTree(both, 3, "((2)3)");
    }

    /** Of three in a row, the last one and then the first one get to the head over the middle one. */
    private static void splaying() {
        says("Terms", "To splay a block turns until it is the head: if its upper one is the head, the block is turned; otherwise, "
            + "if the block and its upper one are both left ones, or both right ones, the upper one is turned first, and then the "
            + "block; and otherwise the block is turned twice.");
        QuarryRopes x = blocks(1, 2, 3);
        x.hang(1, 0);
        x.hang(2, 1);
        x.walk(2);
        dueTree(x, 0, "(((0)1)2)");
        due("turns to the head itself", x.turnsFor(2), 0);
        x.walk(2);
        due("account(5)", x.account(5), 2);
        x.up(2);
        dueTree(x, 0, "(0(1(2)))");
        due("turns of two left ones", x.account(5), 4);
        x.walk(2);
        dueTree(x, 0, "(((0)1)2)");
        due("turns of two right ones", x.account(5), 6);
        QuarryRopes y = risen();
        due("account(5)", y.account(5), 6);
        y.walk(3);
        dueTree(y, 0, "((0(1(2)))3)");
        due("turns below the head", y.account(5), 7);
        QuarryRopes z = risen();
        z.walk(1);
        dueTree(z, 0, "((0)1)");
        dueTree(z, 2, "((2)3)");
        due("turns of a left one of a right one", z.account(5), 8);
        z = risen();
        z.walk(2);
        dueTree(z, 0, "((0(1))2)");
        dueTree(z, 3, "(3)");
        due("turns of a right one of a left one", z.account(5), 9);
    }

    private static void exposing() {
        says("Terms", "Exposing. To expose a block first splays it, and all that is right of it is taken off, and is a rope with a "
            + "tree of its own then.");
        QuarryRopes x = risen();
        x.walk(0);
        dueTree(x, 0, "(0)");
        dueTree(x, 1, "((1(2))3)");
        due("treeOf(3, 2)", x.treeOf(3, 2), NOTHING);
        due("ropes()", x.ropes(), 2);
        x.walk(3);
        x.walk(3);
        due("ropes() without one that is right of it", x.ropes(), 1);
        says("Terms", "Then, as long as the top of the rope has a holder, this holder is splayed, all that is right of it is taken "
            + "off in the same way, and the head of the rope, with its tree, becomes the right one of the holder, so that both are "
            + "one rope.");
        exposeOverRopes();
        says("Terms", "At last the block is splayed.");
        QuarryRopes y = chain();
        y.walk(3);
        dueTree(y, 3, "((((0)1)2)3)");
        y.walk(0);
        y.walk(2);
        due("treeOf(2, 2)", y.treeOf(2, 2), NOTHING);
        dueTree(y, 2, "((0(1))2)");
        says("Terms", "So the rope goes from the root down to the block then.");
        QuarryRopes z = deepest();
        z.walk(9);
        due("ropeOf(9, 0)", z.ropeOf(9, 0), 0);
        due("placeOf(9)", z.placeOf(9), 9);
        due("ropeOf(9, 10)", z.ropeOf(9, 10), NONE);
        dueRopes(z, "0-1-2-3-4-5-6-7-8-9 10 11 12 13 14 15");
    }

    private static void exposeOverRopes() {
        QuarryRopes x = blocks(1, 2, 3, 4, 5);
        x.hang(1, 0);
        x.hang(3, 1);
        x.hang(4, 3);
        x.hang(2, 1);
        x.walk(2);
        dueRopes(x, "0-1-2 3 4");
        due("account(5)", x.account(5), 4);
        due("turnsFor(4)", x.turnsFor(4), 3);
        x.walk(4);
        dueRopes(x, "0-1-3-4 2");
        dueTree(x, 4, "((((0)1)3)4)");
        due("account(5)", x.account(5), 7);
        QuarryRopes root = blocks(1);
        root.walk(0);
        dueTree(root, 0, "(0)");
        QuarryRopes all = deepest();
        all.walk(15);
        due("ropes()", all.ropes(), 1);
        due("account(5)", all.account(5), 15);
        dueTree(all, 15, "((0((1)2((3)4((5)6((7)8((9)10((11)12((13)14))))))))15)");
    }

    private static void hanging() {
        says("Terms", "Hanging and cutting. To hang a root on a block of another hang exposes the root, then the other block, and then "
            + "the root gets this block as its holder, but ropes stay as they are.");
        QuarryRopes x = blocks(1, 2, 3, 4);
        x.hang(1, 0);
        x.hang(3, 2);
        x.walk(1);
        x.walk(3);
        dueRopes(x, "0-1 2-3");
        due("hang(0, 2)", x.hang(0, 2), 1);
        dueRopes(x, "0 1 2 3");
        due("blockOf(0, 1)", x.blockOf(0, 1), 2);
        due("account(4)", x.account(4), 8);
        x.cut(0);
        x.walk(1);
        due("hang(2, 1)", x.hang(2, 1), 2);
        dueRopes(x, "0-1 2 3");
        due("account(4)", x.account(4), 12);
    }

    private static void cutting() {
        says("Terms", "To cut a block off exposes it, takes all that is left of it off, as a rope with a tree of its own, and then the "
            + "block has no holder.");
        QuarryRopes x = risen();
        due("cut(2)", x.cut(2), 1);
        dueTree(x, 0, "(0(1))");
        dueTree(x, 2, "(2)");
        dueTree(x, 3, "(3)");
        due("treeOf(0, 2)", x.treeOf(0, 2), NOTHING);
        due("treeOf(2, 0)", x.treeOf(2, 0), NOTHING);
        due("blockOf(2, 1)", x.blockOf(2, 1), NOTHING);
        due("blockOf(3, 1)", x.blockOf(3, 1), 2);
        due("account(4)", x.account(4), 8);
    }

    private static void walkingAndGoingUp() {
        says("Terms", "To walk to a block exposes it.");
        QuarryRopes x = chain();
        x.walk(3);
        dueTree(x, 3, "((((0)1)2)3)");
        due("account(4)", x.account(4), 7);
        says("Terms", "To go up from a block exposes it, and then splays the root, which is on its rope.");
        x.up(2);
        dueTree(x, 2, "(0(1(2)))");
        dueTree(x, 3, "(3)");
        due("account(4)", x.account(4), 8);
        due("account(5)", x.account(5), 6);
        x.up(0);
        dueTree(x, 0, "(0)");
        dueTree(x, 2, "(1(2))");
        due("account(5)", x.account(5), 6);
    }

    private static void sledges() {
        says("Terms", "Sledges. At most 3 sledges are set, numbered from 0, each at a block, with the weight that this block has then "
            + "as its load.");
        QuarryRopes x = chain();
        due("sledge(3)", x.sledge(3), 0);
        x.weigh(3, 0);
        due("sledge(3)", x.sledge(3), 1);
        due("sledge(0)", x.sledge(0), 2);
        due("sledge(0)", x.sledge(0), REFUSED);
        due("sledgeOf(0, 1)", x.sledgeOf(0, 1), 11);
        due("sledgeOf(1, 1)", x.sledgeOf(1, 1), 0);
        due("sledgeOf(2, 1)", x.sledgeOf(2, 1), 5);
        due("sledgeOf(3, 1)", x.sledgeOf(3, 1), NONE);
        says("Terms", "When sledges are pulled, each that is there, by the numbers, exposes its block, and then goes to its holder; at "
            + "a root it does not, but arrives, and is no more there.");
        QuarryRopes y = blocks(1, 2, 3);
        y.hang(1, 0);
        y.hang(2, 0);
        y.sledge(2);
        y.sledge(1);
        y.sledge(0);
        due("pull()", y.pull(), 1);
        dueRopes(y, "0 1 2");
        due("account(4)", y.account(4), 7);
        due("account(8)", y.account(8), 2);
        due("sledgeOf(0, 0)", y.sledgeOf(0, 0), 0);
        due("sledgeOf(2, 0)", y.sledgeOf(2, 0), 0);
        due("sledgeOf(2, 3)", y.sledgeOf(2, 3), 1);
        dueOrder(2, 1, "0-1 2");
        dueOrder(1, 2, "0-2 1");
        says("Terms", "Sledges that arrived stay so.");
        y.block(4);
        y.hang(0, 3);
        due("pull()", y.pull(), 0);
        due("sledgeOf(2, 0)", y.sledgeOf(2, 0), 0);
        due("sledgeOf(2, 2)", y.sledgeOf(2, 2), 1);
        due("sledgeOf(2, 3)", y.sledgeOf(2, 3), 1);
        due("sledgeOf(0, 0)", y.sledgeOf(0, 0), 3);
    }

    private static void dueOrder(int first, int second, String want) {
        QuarryRopes x = blocks(1, 2, 3);
        x.hang(1, 0);
        x.hang(2, 0);
        x.sledge(first);
        x.sledge(second);
        x.pull();
        dueRopes(x, want);
    }

    private static void inputs() {
        says("Terms", "Texts. The input has at most 60 characters, with codes from 32 to 126.");
        QuarryRopes x = new QuarryRopes();
        due("append of 31", x.append((char) 31), BAD);
        due("append of 127", x.append((char) 127), BAD);
        due("append of 32", x.append((char) 32), 1);
        due("append of 126", x.append((char) 126), 2);
        for (int length = 3; length <= 60; length++) {
            due("append of 48", x.append('0'), length);
        }
        due("append as the 61st", x.append('0'), BAD);
        due("account(11)", x.account(11), 60);
        says("Terms", "Its grammar is as follows, with terminals in quotes, where braces mean repetition and brackets an optional part:");
        due("read() of 60 that are no text", x.read(), BAD);
        QuarryRopes y = blocks(1);
        due("read() without repetition", read(y, "up 0"), 1);
        due("read() with repetition and the optional part", read(y, "up 00;up 0"), 2);
        due("read() with a blank that is not quoted", read(y, "up 0; up 0"), BAD);
        due("fault()", y.fault(), 5);
    }

    private static void dueFault(String text, int want) {
        QuarryRopes x = new QuarryRopes();
        due("read() of '" + text + "'", read(x, text), BAD);
        due("fault() of '" + text + "'", x.fault(), want);
    }

    private static void texts() {
        says("Terms", "`text = command { \";\" command`}");
        dueFault("", 0);
        dueFault(";", 0);
        dueFault(";pull", 0);
        dueFault("pull;", 5);
        dueFault("pull;;", 5);
        dueFault("pull,pull", 4);
        dueFault("pullpull", 4);
        QuarryRopes x = blocks(1);
        due("one command", read(x, "walk 0"), 1);
        due("two commands", read(x, "walk 0;walk 0"), 2);
        String twelve = "up 0;up 0;up 0;up 0;up 0;up 0;up 0;up 0;up 0;up 0;up 0;up 0";
        due("twelve commands", read(x, twelve), 12);
        due("twelve commands in 60 characters", read(x, twelve + "0"), 12);
        due("with one more", read(x, twelve + ";"), BAD);
        due("fault()", x.fault(), 60);
    }

    private static void commands() {
        says("Terms", "`command = \"block \" number | \"hang \" number \" \" number | \"cut \" number | \"walk \" number | "
            + "\"up \" number | \"weigh \" number \" \" number | \"sledge \" number | \"pull\"`");
        for (String word : new String[] {"block ", "hang ", "cut ", "walk ", "up ", "weigh ", "sledge "}) {
            dueFault(word, word.length());
            dueFault(word + " 1", word.length());
            dueFault(word + ";", word.length());
            dueFault(word + "-1", word.length());
            dueFault(word.trim() + "1", word.length() - 1);
            dueFault(word.trim() + ";", word.length() - 1);
        }
        for (String word : new String[] {"block ", "cut ", "walk ", "up ", "sledge "}) {
            dueFault(word + "1 ", word.length() + 1);
            dueFault(word + "12 3", word.length() + 2);
            dueFault(word + "1;", word.length() + 2);
        }
        for (String word : new String[] {"hang ", "weigh "}) {
            dueFault(word + "1", word.length() + 1);
            dueFault(word + "12", word.length() + 2);
            dueFault(word + "1;", word.length() + 1);
            dueFault(word + "12 ", word.length() + 3);
            dueFault(word + "1  2", word.length() + 2);
            dueFault(word + "1 ;", word.length() + 2);
            dueFault(word + "1,2", word.length() + 1);
            dueFault(word + "1 2 ", word.length() + 3);
            dueFault(word + "12 34 5", word.length() + 5);
        }
        dueFault("pull ", 4);
        dueFault("pull1", 4);
        dueFault("pull;pull 1", 9);
    }

    private static void numbersOfTexts() {
        says("Terms", "`number = digit [ digit ]`");
        dueFault("block ", 6);
        dueFault("block /", 6);
        dueFault("block :", 6);
        dueFault("block 1/", 7);
        dueFault("block 1:", 7);
        dueFault("block 000", 8);
        dueFault("block 123", 8);
        dueFault("weigh 0 123", 10);
        dueFault("hang 123 0", 7);
        QuarryRopes x = new QuarryRopes();
        due("one digit", read(x, "block 0;block 9"), 2);
        due("two digits", read(x, "block 00;block 07;block 10;block 99"), 4);
        int[] weights = {0, 9, 0, 7, 10, 99};
        for (int block = 0; block < weights.length; block++) {
            due("blockOf(" + block + ", 0)", x.blockOf(block, 0), weights[block]);
        }
        due("numbers of blocks", read(x, "weigh 05 98;weigh 4 0;hang 00 01"), 3);
        due("blockOf(5, 0)", x.blockOf(5, 0), 98);
        due("blockOf(4, 0)", x.blockOf(4, 0), 0);
        due("blockOf(0, 1)", x.blockOf(0, 1), 1);
    }

    private static void dueCommand(String command, Call call) {
        QuarryRopes x = chain();
        QuarryRopes twin = chain();
        x.sledge(2);
        twin.sledge(2);
        due("read() of " + command, read(x, command), 1);
        call.on(twin);
        dueAlike(command, x, twin);
    }

    private static void commandsAreCalls() {
        says("Terms", "The commands are the calls of block, hang, cut, walk, up, weigh, sledge and pull.");
        dueCommand("block 99", twin -> twin.block(99));
        dueCommand("cut 2", twin -> twin.cut(2));
        dueCommand("walk 1", twin -> twin.walk(1));
        dueCommand("up 3", twin -> twin.up(3));
        dueCommand("weigh 3 4", twin -> twin.weigh(3, 4));
        dueCommand("sledge 3", twin -> twin.sledge(3));
        dueCommand("pull", QuarryRopes::pull);
        QuarryRopes x = blocks(3, 4);
        QuarryRopes twin = blocks(3, 4);
        due("read() of hang", read(x, "hang 1 0"), 1);
        twin.hang(1, 0);
        dueAlike("hang", x, twin);
    }

    /** Each word is broken off, and is gone on with wrongly, after each of its letters, as first and as second command. */
    private static void faultPositions() {
        says("Terms", "The fault position of a text is the index of its first character that cannot continue such a text, or its "
            + "length if it ends too early; words are looked at letter by letter.");
        String[] words = {"block ", "hang ", "cut ", "walk ", "up ", "weigh ", "sledge ", "pull"};
        for (String word : words) {
            for (int letters = 0; letters < word.length(); letters++) {
                String begun = word.substring(0, letters);
                dueFault(begun, letters);
                dueFault(begun + "~", letters);
                dueFault(begun + "~" + word.substring(letters), letters);
                if (word.charAt(letters) != ' ') {
                    dueFault(begun + Character.toUpperCase(word.charAt(letters)), letters);
                }
                dueFault("pull;" + begun, 5 + letters);
                dueFault("pull;" + begun + "~", 5 + letters);
            }
        }
        dueFault("wa", 2);
        dueFault("we", 2);
        dueFault("wu", 1);
        dueFault("waigh 1 2", 2);
        dueFault("welk 1", 2);
        dueFault("bull", 1);
        dueFault("puck 1", 2);
        dueFault("cup 1", 2);
        dueFault("slang 1 2", 2);
        dueFault(" pull", 0);
        dueFault("pull;cut 1;hang 1 2;pull;weigh 1 x", 33);
        dueFault("block 1;block 1;block 1;block 1;block 1;block 1;block 1;bloc", 60);
    }

    private static void reasonsInOrder() {
        says("Terms", "Reasons. Something is refused for the first that applies of the reasons that its method names, in the order in "
            + "which it names them, with a detail:");
        QuarryRopes x = chain();
        dueRefusal(x, "hang(2, 3) for 2 before 3", x.hang(2, 3), 2, 1);
        dueRefusal(x, "hang(2, 2) for 2 before 3", x.hang(2, 2), 2, 1);
        dueRefusal(x, "hang(0, 3) for 3", x.hang(0, 3), 3, 0);
        due("read() for 7 before 8", read(x, "pull;cut 9"), REFUSED);
        dueReason(x, 7, 0);
        due("read() for 8 before 7", read(x, "cut 9;pull"), REFUSED);
        dueReason(x, 8, 0);
    }

    private static void reasonsOfCalls() {
        says("Terms", "1, there are as many as there can be: this number;");
        QuarryRopes x = full();
        dueRefusal(x, "block(0)", x.block(0), 1, 16);
        x.sledge(0);
        x.sledge(0);
        x.sledge(0);
        dueRefusal(x, "sledge(0)", x.sledge(0), 1, 3);
        says("Terms", "2, the block is no root: its holder;");
        x = chain();
        x.block(1);
        dueRefusal(x, "hang(1, 4)", x.hang(1, 4), 2, 0);
        dueRefusal(x, "hang(3, 4)", x.hang(3, 4), 2, 2);
        says("Terms", "3, both are of one hang: its root;");
        dueRefusal(x, "hang(0, 1)", x.hang(0, 1), 3, 0);
        dueRefusal(x, "hang(0, 3)", x.hang(0, 3), 3, 0);
        dueRefusal(x, "hang(4, 4)", x.hang(4, 4), 3, 4);
        says("Terms", "4, the block is a root: the block;");
        dueRefusal(x, "cut(0)", x.cut(0), 4, 0);
        dueRefusal(x, "cut(4)", x.cut(4), 4, 4);
        says("Terms", "5, it is so already: the weight;");
        dueRefusal(x, "weigh(3, 11)", x.weigh(3, 11), 5, 11);
        x.weigh(3, 0);
        dueRefusal(x, "weigh(3, 0)", x.weigh(3, 0), 5, 0);
        x.weigh(3, 99);
        dueRefusal(x, "weigh(3, 99)", x.weigh(3, 99), 5, 99);
        says("Terms", "6, no sledge is there: how many arrived;");
        x = chain();
        dueRefusal(x, "pull()", x.pull(), 6, 0);
        x.sledge(0);
        x.pull();
        dueRefusal(x, "pull()", x.pull(), 6, 1);
        x.sledge(0);
        x.sledge(0);
        x.pull();
        dueRefusal(x, "pull()", x.pull(), 6, 3);
    }

    private static void reasonsOfTexts() {
        says("Terms", "7, a command of a text is refused: its number, from 0;");
        QuarryRopes x = chain();
        due("read()", read(x, "pull"), REFUSED);
        dueReason(x, 7, 0);
        due("read()", read(x, "walk 0;walk 0;cut 0;walk 0"), REFUSED);
        dueReason(x, 7, 2);
        due("read()", read(x, "up 0;up 0;up 0;up 0;up 0;up 0;up 0;up 0;up 0;up 0;up 0;pull"), REFUSED);
        dueReason(x, 7, 11);
        says("Terms", "8, a command of a text would return another code: its number, from 0.");
        String[] commands = {"cut 4", "walk 4", "up 4", "weigh 4 1", "hang 4 0", "hang 0 4", "sledge 4", "cut 99"};
        for (int number = 0; number < commands.length; number++) {
            due("read() of " + commands[number], read(x, commands[number]), REFUSED);
            dueReason(x, 8, 0);
            dueReasonBehind(x, NOTHING, NOTHING);
        }
        due("read()", read(x, "up 0;up 0;up 0;up 0;up 0;up 0;up 0;up 0;up 0;up 0;up 0;up 16"), REFUSED);
        dueReason(x, 8, 11);
        says("Terms", "Behind 7 stands the reason of the command.");
        dueBehind("block 1;block 2;block 3", full(), 0, 1, 16);
        dueBehind("sledge 0;sledge 1;sledge 2;sledge 3", chain(), 3, 1, 3);
        dueBehind("hang 3 0", chain(), 0, 2, 2);
        dueBehind("walk 1;hang 0 3", chain(), 1, 3, 0);
        dueBehind("cut 3;cut 3", chain(), 1, 4, 3);
        dueBehind("weigh 3 0;weigh 3 00", chain(), 1, 5, 0);
        dueBehind("sledge 0;pull;pull", chain(), 2, 6, 1);
    }

    private static void dueBehind(String text, QuarryRopes x, int number, int reason, int detail) {
        due("read() of " + text, read(x, text), REFUSED);
        dueReason(x, 7, number);
        dueReasonBehind(x, reason, detail);
    }

    private static void changes() {
        says("Terms", "Changes. The changes are the successful calls of block, hang, cut, walk, up, weigh, sledge, pull and read, also "
            + "those by which nothing is different.");
        QuarryRopes x = blocks(1);
        due("account(12) by block", x.account(12), 1);
        x.block(2);
        x.hang(1, 0);
        due("account(12) by hang", x.account(12), 3);
        x.walk(1);
        due("account(12) by walk", x.account(12), 4);
        x.walk(1);
        due("account(12) by a walk that turns nothing", x.account(12), 5);
        due("undo()", x.undo(), 4);
        x.up(1);
        due("account(12) by up", x.account(12), 5);
        x.weigh(1, 3);
        due("account(12) by weigh", x.account(12), 6);
        x.sledge(0);
        due("account(12) by sledge", x.account(12), 7);
        x.pull();
        due("account(12) by pull", x.account(12), 8);
        x = chain();
        x.clear();
        x.block(1);
        due("account(12)", x.account(12), 1);
        x.save();
        x.append('u');
        x.tellRopes();
        x.cut(0);
        x.turnsFor(0);
        due("account(12) by no change", x.account(12), 1);
        type(x, "p 0;up 0;up 0");
        due("read()", x.read(), 3);
        due("account(12) by read", x.account(12), 2);
        x.block(2);
        x.hang(1, 0);
        x.cut(1);
        due("account(12) by cut", x.account(12), 5);
    }

    private static void latest8() {
        says("Terms", "The latest 8 can be undone.");
        for (int changes = 0; changes <= 30; changes++) {
            QuarryRopes x = new QuarryRopes();
            x.block(0);
            for (int change = 1; change < changes; change++) {
                x.weigh(0, change);
            }
            int most = changes == 0 ? 1 : Math.min(changes, 8);
            due("account(12)", x.account(12), most);
            for (int left = most - 1; left >= 0; left--) {
                due("undo()", x.undo(), left);
                due("account(12)", x.account(12), left);
            }
            due("blockOf(0, 0)", x.blockOf(0, 0), changes > 8 ? changes - 9 : NONE);
            due("undo() of a 9th", x.undo(), NOTHING);
        }
    }

    private static void whatStays() {
        says("Terms", "The input, the fault position, the reasons and the written line are neither undone nor saved, and stay.");
        QuarryRopes x = blocks(1, 2);
        x.save();
        x.block(3);
        read(x, "weigh 0");
        read(x, "walk 0;cut 1");
        type(x, "pul");
        x.tellTree(2);
        for (int times = 0; times < 2; times++) {
            due("undo() or restore()", times == 0 ? x.undo() : x.restore(), 2);
            due("account(11)", x.account(11), 3);
            due("fault()", x.fault(), 7);
            dueReason(x, 7, 1);
            dueReasonBehind(x, 4, 1);
            due("written(1)", x.written(1), '2');
        }
        due("read() of what stayed", read(x, "l"), REFUSED);
    }

    /** A chain with a past: a sledge on the way, something saved, and a fault, a reason and a line to be kept. */
    private static QuarryRopes busy() {
        QuarryRopes x = chain();
        x.sledge(2);
        x.save();
        x.pull();
        x.walk(1);
        read(x, "pul");
        x.hang(2, 0);
        x.tellTree(1);
        return x;
    }

    private static void dueNoChange(String call, int want, Call made) {
        QuarryRopes x = busy();
        QuarryRopes twin = busy();
        due(call, made.on(x), want);
        if (want == REFUSED) {
            x.cut(0);
            twin.cut(0);
        }
        dueAlike(call, x, twin);
    }

    private static void errorsOfChanges() {
        says("Terms", "Codes of calls. A call that returns an error leaves everything as it was, except that read empties the input, and "
            + "that reasons and fault positions are kept.");
        dueNoChange("append((char) 31)", BAD, x -> x.append((char) 31));
        dueNoChange("append((char) 127)", BAD, x -> x.append((char) 127));
        dueNoChange("block(-1)", BAD, x -> x.block(-1));
        dueNoChange("block(100)", BAD, x -> x.block(100));
        dueNoChange("hang(4, 0)", NONE, x -> x.hang(4, 0));
        dueNoChange("hang(0, 4)", NONE, x -> x.hang(0, 4));
        dueNoChange("hang(3, 0)", REFUSED, x -> x.hang(3, 0));
        dueNoChange("hang(0, 3)", REFUSED, x -> x.hang(0, 3));
        dueNoChange("cut(4)", NONE, x -> x.cut(4));
        dueNoChange("cut(0)", REFUSED, x -> x.cut(0));
        dueNoChange("walk(4)", NONE, x -> x.walk(4));
        dueNoChange("up(-1)", NONE, x -> x.up(-1));
        dueNoChange("weigh(4, 1)", NONE, x -> x.weigh(4, 1));
        dueNoChange("weigh(3, 100)", BAD, x -> x.weigh(3, 100));
        dueNoChange("weigh(3, 11)", REFUSED, x -> x.weigh(3, 11));
        dueNoChange("sledge(4)", NONE, x -> x.sledge(4));
        dueNoChange("tellTree(4)", NONE, x -> x.tellTree(4));
        dueNoChange("reason(2, true)", BAD, x -> x.reason(2, true));
        dueNoChange("blockOf(4, 0)", NONE, x -> x.blockOf(4, 0));
        dueNoChange("blockOf(0, 7)", BAD, x -> x.blockOf(0, 7));
        dueNoChange("treeOf(4, 0)", NONE, x -> x.treeOf(4, 0));
        dueNoChange("treeOf(0, 7)", BAD, x -> x.treeOf(0, 7));
        dueNoChange("ropeOf(0, 2)", NONE, x -> x.ropeOf(0, 2));
        dueNoChange("turnsFor(4)", NONE, x -> x.turnsFor(4));
        dueNoChange("joint(4, 0)", NONE, x -> x.joint(4, 0));
        dueNoChange("sledgeOf(1, 0)", NONE, x -> x.sledgeOf(1, 0));
        dueNoChange("sledgeOf(0, 4)", BAD, x -> x.sledgeOf(0, 4));
        dueNoChange("account(13)", BAD, x -> x.account(13));
        errorsOfFullStores();
        errorsOfReading();
    }

    private static void errorsOfFullStores() {
        QuarryRopes x = full();
        due("block(1)", x.block(1), REFUSED);
        due("account(12)", x.account(12), 8);
        dueRopes(x, "0 1 2 3 4 5 6 7 8 9 10 11 12 13 14 15");
        for (int left = 7; left >= 0; left--) {
            due("undo()", x.undo(), left);
        }
        due("account(0)", x.account(0), 8);
        QuarryRopes y = chain();
        y.sledge(1);
        y.sledge(1);
        y.sledge(1);
        due("sledge(3)", y.sledge(3), REFUSED);
        due("account(8)", y.account(8), 3);
        due("account(12)", y.account(12), 8);
        due("blockOf(3, 6)", y.blockOf(3, 6), 0);
        QuarryRopes z = chain();
        due("pull()", z.pull(), REFUSED);
        due("account(4)", z.account(4), 6);
        due("account(12)", z.account(12), 7);
        due("restore()", z.restore(), NOTHING);
        due("account(12)", z.account(12), 7);
        dueRopes(z, "0-1-2 3");
        z.clear();
        z.block(1);
        z.undo();
        due("undo()", z.undo(), NOTHING);
        due("account(0)", z.account(0), 0);
    }

    /** What was busy already is at fault at 3 with an empty input. */
    private static void dueNoReading(String text, int want) {
        QuarryRopes x = busy();
        QuarryRopes twin = busy();
        due("read() of " + text, read(x, text), want);
        due("account(11)", x.account(11), 0);
        if (want == REFUSED) {
            x.cut(0);
            twin.cut(0);
        }
        dueAlike("read() of " + text, x, twin);
    }

    private static void errorsOfReading() {
        dueNoReading("pul", BAD);
        dueNoReading("cut1", BAD);
        dueNoReading("up ;", BAD);
        dueNoReading("pull;pull;pull", REFUSED);
        dueNoReading("cut 0", REFUSED);
        dueNoReading("block 1;cut 2;walk 3;up 3;weigh 0 1;pull;hang 2 0;cut 4", REFUSED);
        dueNoReading("sledge 0;sledge 1;sledge 1;block 9", REFUSED);
        dueNoReading("cut 3;hang 3 0;pull;walk 9", REFUSED);
        dueNoReading("walk 3;walk 0;walk 3;walk 0;walk 3;walk 0;walk 3;walk 0;up 4", REFUSED);
        QuarryRopes x = busy();
        due("fault()", x.fault(), 3);
        due("read()", read(x, "walk 3;walk"), BAD);
        due("fault() that is kept", x.fault(), 11);
        due("read()", read(x, "cut 0"), REFUSED);
        due("fault() that is kept", x.fault(), 11);
        dueReason(x, 7, 0);
        due("read()", read(x, "cut"), BAD);
        dueReason(x, 7, 0);
    }

    private static void firstErrors() {
        says("Terms", "If several errors apply, the one that is named first is returned.");
        QuarryRopes x = full();
        due("block(100) for BAD before REFUSED", x.block(100), BAD);
        due("hang(16, 0) for NONE before REFUSED", x.hang(16, 0), NONE);
        due("hang(0, 16) for NONE before REFUSED", x.hang(0, 16), NONE);
        due("cut(16) for NONE", x.cut(16), NONE);
        due("weigh(16, 100) for NONE before BAD", x.weigh(16, 100), NONE);
        due("weigh(16, 5) for NONE before REFUSED", x.weigh(16, 5), NONE);
        due("blockOf(16, 7) for NONE before BAD", x.blockOf(16, 7), NONE);
        due("treeOf(16, 7) for NONE before BAD", x.treeOf(16, 7), NONE);
        due("ropeOf(16, -1) for NONE", x.ropeOf(16, -1), NONE);
        due("joint(16, 17) for NONE before NOTHING", x.joint(16, 17), NONE);
        due("joint(0, 16) for NONE before NOTHING", x.joint(0, 16), NONE);
        due("jointAgain(16, 0) for NONE before NOTHING", x.jointAgain(16, 0), NONE);
        due("jointAgain(0, -1) for NONE before NOTHING", x.jointAgain(0, -1), NONE);
        due("sledgeOf(0, 4) for NONE before BAD", x.sledgeOf(0, 4), NONE);
        due("reason(2, false) for BAD before NOTHING", x.reason(2, false), BAD);
        due("reason(-1, true) for BAD before NOTHING", x.reason(-1, true), BAD);
        x.hang(1, 0);
        due("hang(1, 16) for NONE before REFUSED for 2", x.hang(1, 16), NONE);
        for (int sledge = 0; sledge < 3; sledge++) {
            x.sledge(0);
        }
        due("sledge(16) for NONE before REFUSED", x.sledge(16), NONE);
        due("reason(0, false) as none was refused", x.reason(0, false), NOTHING);
        for (int length = 0; length < 60; length++) {
            x.append('u');
        }
        due("append((char) 0) for both", x.append((char) 0), BAD);
        due("read() for BAD before REFUSED", read(blocks(1), "cut 0;cut 9;cut"), BAD);
    }

    private static void askAll(QuarryRopes x) {
        for (int block = -1; block <= 4; block++) {
            for (int what = -1; what <= 7; what++) {
                x.blockOf(block, what);
                x.treeOf(block, what);
            }
            x.ropeOf(block, 1);
            x.placeOf(block);
            x.ropesAbove(block);
            x.turnsFor(block);
            x.sum(block);
            x.sumAgain(block);
            x.root(block);
            x.rootAgain(block);
            x.joint(block, 3);
            x.jointAgain(3, block);
            x.ranked(block);
            x.account(block);
            x.tellTree(block);
        }
        x.sledgeOf(0, 0);
        x.ropes();
        x.written(0);
        x.isWell();
        x.meanDepth();
        x.rootShare();
        x.fault();
        x.reason(0, true);
        x.tellRopes();
    }

    private static void details() {
        says("Terms", "Details. Questions expose nothing.");
        QuarryRopes x = risen();
        x.walk(2);
        x.sledge(3);
        askAll(x);
        dueAccounts(x, 4, 1, 2, 32, 8, 9, 3, 0, 1, 0, 0, 0, 8);
        dueTree(x, 0, "((0(1))2)");
        dueTree(x, 3, "(3)");
        says("Terms", "What is refused exposes nothing either.");
        QuarryRopes y = risen();
        due("hang(3, 0)", y.hang(3, 0), REFUSED);
        due("hang(0, 2)", y.hang(0, 2), REFUSED);
        due("cut(0)", y.cut(0), REFUSED);
        due("weigh(2, 9)", y.weigh(2, 9), REFUSED);
        due("pull()", y.pull(), REFUSED);
        due("read()", read(y, "walk 2;cut 0"), REFUSED);
        due("read()", read(y, "walk 2;walk 4"), REFUSED);
        dueAccounts(y, 4, 1, 1, 32, 7, 6, 3, 0, 0, 0, 0, 0, 8);
        dueTree(y, 0, "(0((1(2))3))");
        says("Terms", "An exposing counts once, however many ropes it goes through; turns are counted one by one.");
        QuarryRopes z = deepest();
        due("account(4)", z.account(4), 30);
        due("account(5)", z.account(5), 0);
        z.walk(15);
        due("account(4) by one over 16 ropes", z.account(4), 31);
        due("account(5) by one over 16 ropes", z.account(5), 15);
        z.walk(15);
        due("account(4) by one over 1 rope", z.account(4), 32);
        due("account(5) by one that turns nothing", z.account(5), 15);
        says("Terms", "To weigh a block changes neither its rope nor the load of a sledge.");
        QuarryRopes w = risen();
        w.sledge(2);
        w.weigh(2, 90);
        due("sledgeOf(0, 1)", w.sledgeOf(0, 1), 9);
        due("account(4)", w.account(4), 7);
        dueTree(w, 0, "(0((1(2))3))");
        w.pull();
        w.pull();
        w.pull();
        due("account(10)", w.account(10), 9);
    }

    private static void detailsOfSledges() {
        says("Terms", "Sledges stay at their blocks when these are hung or cut off.");
        QuarryRopes x = chain();
        x.sledge(2);
        x.sledge(1);
        x.cut(2);
        due("sledgeOf(0, 0)", x.sledgeOf(0, 0), 2);
        due("sledgeOf(1, 0)", x.sledgeOf(1, 0), 1);
        x.hang(2, 0);
        due("sledgeOf(0, 0)", x.sledgeOf(0, 0), 2);
        due("blockOf(2, 6)", x.blockOf(2, 6), 1);
        due("blockOf(1, 6)", x.blockOf(1, 6), 1);
        x.pull();
        due("sledgeOf(0, 0)", x.sledgeOf(0, 0), 0);
        says("Terms", "A sledge that is pulled from a block whose holder another sledge has is there with it.");
        QuarryRopes y = chain();
        y.sledge(1);
        y.sledge(2);
        y.sledge(2);
        y.pull();
        due("blockOf(0, 6)", y.blockOf(0, 6), 1);
        due("blockOf(1, 6)", y.blockOf(1, 6), 2);
        QuarryRopes z = chain();
        z.sledge(2);
        z.sledge(0);
        z.hang(0, z.block(1));
        z.cut(1);
        z.pull();
        due("blockOf(1, 6)", z.blockOf(1, 6), 1);
        due("blockOf(4, 6)", z.blockOf(4, 6), 1);
        says("Terms", "How many blocks a hang has is told of all blocks of it, not only of a rope.");
        QuarryRopes w = deepest();
        due("blockOf(7, 5) of 16 ropes", w.blockOf(7, 5), 16);
        w.walk(3);
        due("blockOf(0, 5)", w.blockOf(0, 5), 16);
        due("blockOf(15, 5)", w.blockOf(15, 5), 16);
        due("treeOf(3, 5) of its rope alone", w.treeOf(3, 5), 4);
        says("Terms", "The 3 sledges are those that are set in all, arrived ones too.");
        QuarryRopes v = chain();
        for (int sledge = 0; sledge < 3; sledge++) {
            due("sledge(0)", v.sledge(0), sledge);
            due("pull()", v.pull(), 1);
        }
        dueRefusal(v, "sledge(0)", v.sledge(0), 1, 3);
        says("Terms", "A sledge at a root exposes that block, too, as it arrives.");
        QuarryRopes u = risen();
        u.sledge(0);
        due("pull()", u.pull(), 1);
        due("account(4)", u.account(4), 8);
        dueRopes(u, "0 1-2-3");
        says("Terms", "Sledges that arrived do not count for a block.");
        due("blockOf(0, 6)", u.blockOf(0, 6), 0);
        u.sledge(0);
        due("blockOf(0, 6)", u.blockOf(0, 6), 1);
        due("account(8)", u.account(8), 1);
        due("account(9)", u.account(9), 1);
    }

    private static void constants() {
        says("Terms", "The constants: `NONE = -1`: There is no such number.");
        due("NONE", QuarryRopes.NONE, -1);
        due("walk(0)", new QuarryRopes().walk(0), -1);
        says("Terms", "`BAD = -2`: A number is out of range, or a text has a fault.");
        due("BAD", QuarryRopes.BAD, -2);
        due("block(100)", new QuarryRopes().block(100), -2);
        due("read()", new QuarryRopes().read(), -2);
        says("Terms", "`REFUSED = -3`: It is refused for a reason.");
        due("REFUSED", QuarryRopes.REFUSED, -3);
        due("pull()", new QuarryRopes().pull(), -3);
        says("Terms", "`NOTHING = -4`: There is nothing of this kind.");
        due("NOTHING", QuarryRopes.NOTHING, -4);
        due("undo()", new QuarryRopes().undo(), -4);
    }

    public static void main(String[] args) {
        whatItIs();
        numbers();
        atMost16Blocks();
        holders();
        oneHang();
        ropes();
        trees();
        turning();
        splaying();
        exposing();
        hanging();
        cutting();
        walkingAndGoingUp();
        sledges();
        inputs();
        texts();
        commands();
        numbersOfTexts();
        commandsAreCalls();
        faultPositions();
        reasonsInOrder();
        reasonsOfCalls();
        reasonsOfTexts();
        changes();
        latest8();
        whatStays();
        errorsOfChanges();
        firstErrors();
        details();
        detailsOfSledges();
        constants();
        finish("TermsEdgeTests", "Terms");
    }
}
