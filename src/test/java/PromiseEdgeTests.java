/** A test for each sentence of the promises, at the edges that it names; each quotes its sentence. */
public final class PromiseEdgeTests extends Sentences {
    private static final int NONE = QuarryRopes.NONE;
    private static final int BAD = QuarryRopes.BAD;
    private static final int REFUSED = QuarryRopes.REFUSED;
    private static final int NOTHING = QuarryRopes.NOTHING;

    /** Only blocks from 0 up to the count are there: none of an empty quarry, and none far from them. */
    private static void dueNone(String call, QuarryRopes x, BlockCall made) {
        int count = x.account(0);
        due(call + " of " + count, made.on(x, count), NONE);
        due(call + " of -1", made.on(x, -1), NONE);
        for (int far : FAR) {
            if (far < 0 || far >= count) {
                due(call + " of " + far, made.on(x, far), NONE);
            }
        }
        due(call + " of 0 without blocks", made.on(new QuarryRopes(), 0), NONE);
        due(call + " of 15 of 15 blocks", made.on(blocks(0, 1, 2, 3, 4, 5, 6, 7, 8, 9, 10, 11, 12, 13, 14), 15), NONE);
        due(call + " of 16 of 16 blocks", made.on(full(), 16), NONE);
    }

    private interface BlockCall {
        int on(QuarryRopes x, int block);
    }

    private static void newObject() {
        says("Promise 1:", "Creates a quarry without blocks.");
        QuarryRopes x = new QuarryRopes();
        dueAccounts(x, 0, 0, 0, 0, 0, 0, 0, 0, 0, 0, 0, 0, 0);
        due("blockOf(0, 0)", x.blockOf(0, 0), NONE);
        due("ranked(0)", x.ranked(0), NONE);
        due("sledgeOf(0, 0)", x.sledgeOf(0, 0), NONE);
        due("written(0)", x.written(0), NONE);
        due("fault()", x.fault(), NOTHING);
        due("reason(0, false)", x.reason(0, false), NOTHING);
        due("isWell()", x.isWell(), 1);
        due("undo()", x.undo(), NOTHING);
        due("restore()", x.restore(), NOTHING);
        due("save()", x.save(), 0);
        due("clear()", x.clear(), 0);
    }

    private static QuarryRopes cleared() {
        QuarryRopes x = chain();
        x.sledge(3);
        x.pull();
        x.cut(1);
        x.save();
        read(x, "walk 1;cut 0");
        read(x, "wa1");
        x.tellTree(0);
        type(x, "block 3");
        due("clear()", x.clear(), 4);
        return x;
    }

    private static void clear() {
        says("Promise 2:", "Makes everything as in a new object, except the input, the fault position, the reasons, the written line "
            + "and what was saved.");
        QuarryRopes x = cleared();
        dueAccounts(x, 0, 0, 0, 0, 0, 0, 0, 0, 0, 0, 0, 7, 0);
        due("blockOf(0, 0)", x.blockOf(0, 0), NONE);
        due("sledgeOf(0, 0)", x.sledgeOf(0, 0), NONE);
        due("fault()", x.fault(), 2);
        dueReason(x, 7, 1);
        dueReasonBehind(x, 4, 0);
        due("written(0)", x.written(0), '(');
        due("read() of the input that stays", x.read(), 1);
        due("blockOf(0, 0)", x.blockOf(0, 0), 3);
        due("blockOf(0, 1)", x.blockOf(0, 1), NOTHING);
        due("sledge(0)", x.sledge(0), 0);
        due("restore()", x.restore(), 4);
        due("blockOf(3, 0)", x.blockOf(3, 0), 11);
        says("Promise 2:", "Nothing can be undone then.");
        x = cleared();
        due("undo()", x.undo(), NOTHING);
        due("account(0)", x.account(0), 0);
        x.block(1);
        due("undo()", x.undo(), 0);
        due("undo()", x.undo(), NOTHING);
        says("Promise 2:", "Returns how many blocks there were.");
        due("clear() of 16", full().clear(), 16);
        due("clear() of 1", blocks(1).clear(), 1);
        due("clear() of none", new QuarryRopes().clear(), 0);
    }

    private static void append() {
        says("Promise 3:", "Appends a character to the input.");
        QuarryRopes x = blocks(1);
        type(x, "cut 1;up ~");
        due("read()", x.read(), BAD);
        due("fault()", x.fault(), 9);
        says("Promise 3:", "the character");
        for (char code = 32; code <= 126; code++) {
            QuarryRopes y = new QuarryRopes();
            due("append of " + (int) code, y.append(code), 1);
        }
        says("Promise 3:", "Returns the length of the input then; ");
        due("append of the first", x.append('a'), 1);
        due("append of the second", x.append('b'), 2);
        for (int length = 3; length <= 60; length++) {
            due("append", x.append('c'), length);
        }
        QuarryRopes z = new QuarryRopes();
        says("Promise 3:", "BAD if its code is out of range, ");
        for (char code = 0; code < 32; code++) {
            due("append of " + (int) code, z.append(code), BAD);
        }
        for (char code = 127; code <= 300; code++) {
            due("append of " + (int) code, z.append(code), BAD);
        }
        due("append of 0x8020", z.append((char) 0x8020), BAD);
        due("append of 0xffff", z.append((char) 0xffff), BAD);
        due("account(11)", z.account(11), 0);
        says("Promise 3:", "or there are 60.");
        due("append as the 61st", x.append('a'), BAD);
        due("account(11)", x.account(11), 60);
        x.read();
        due("append to what was emptied", x.append('a'), 1);
    }

    private static void block() {
        says("Promise 4:", "Lets a block come.");
        QuarryRopes x = blocks(4);
        due("account(0)", x.account(0), 1);
        due("account(1)", x.account(1), 1);
        due("ropes()", x.ropes(), 1);
        due("account(4)", x.account(4), 0);
        says("Promise 4:", "its weight");
        due("blockOf(0, 0)", x.blockOf(0, 0), 4);
        due("sum(0)", x.sum(0), 4);
        says("Promise 4:", "Returns its number; ");
        for (int number = 1; number < 16; number++) {
            due("block(0)", x.block(0), number);
        }
        says("Promise 4:", "BAD if the weight is out of range; ");
        QuarryRopes y = new QuarryRopes();
        for (int weight : new int[] {-1, 100, 101, 255, 256, -100, Integer.MIN_VALUE, Integer.MAX_VALUE}) {
            due("block(" + weight + ")", y.block(weight), BAD);
        }
        due("block(0)", y.block(0), 0);
        due("block(99)", y.block(99), 1);
        says("Promise 4:", "REFUSED for 1.");
        dueRefusal(x, "block(0)", x.block(0), 1, 16);
        due("block(-1)", x.block(-1), BAD);
        x.undo();
        due("block(0) after undo", x.block(0), 15);
        dueRefusal(x, "block(99)", x.block(99), 1, 16);
    }

    private static void hang() {
        says("Promise 5:", "Hangs a root on a block.");
        QuarryRopes x = full();
        due("hang(0, 15)", x.hang(0, 15), 1);
        due("blockOf(0, 1)", x.blockOf(0, 1), 15);
        due("account(6)", x.account(6), 1);
        says("Promise 5:", "the root");
        due("account(1)", x.account(1), 15);
        says("Promise 5:", "the block that becomes its holder");
        due("blockOf(15, 3)", x.blockOf(15, 3), 1);
        says("Promise 5:", "Returns the depth of the root then; ");
        due("hang(15, 7) to a root", x.hang(15, 7), 1);
        due("hang(3, 0) to the deepest", x.hang(3, 0), 3);
        due("hang(7, 2) of a hang", x.hang(7, 2), 1);
        due("hang(4, 3)", x.hang(4, 3), 5);
        QuarryRopes y = full();
        for (int root = 1; root < 16; root++) {
            due("hang(" + root + ", " + (root - 1) + ")", y.hang(root, root - 1), root);
        }
        says("Promise 5:", "NONE if there is no such block, for either; ");
        dueNone("hang as the root", chain(), (z, block) -> z.hang(block, 0));
        dueNone("hang as the holder", chain(), (z, block) -> z.hang(0, block));
        dueNone("hang of both", chain(), (z, block) -> z.hang(block, block));
        says("Promise 5:", "REFUSED for 2 or 3.");
        dueRefusal(y, "hang(15, 0) for 2", y.hang(15, 0), 2, 14);
        dueRefusal(y, "hang(0, 15) for 3", y.hang(0, 15), 3, 0);
        dueRefusal(y, "hang(0, 0) for 3", y.hang(0, 0), 3, 0);
        dueRefusal(y, "hang(1, 0) for 2, as it hangs so already", y.hang(1, 0), 2, 0);
        y.cut(15);
        due("hang(15, 0) after cut", y.hang(15, 0), 1);
    }

    private static void cut() {
        says("Promise 6:", "Cuts a block off.");
        QuarryRopes x = deepest();
        due("cut(8)", x.cut(8), 7);
        due("root(15)", x.root(15), 8);
        due("root(7)", x.root(7), 0);
        due("blockOf(15, 2)", x.blockOf(15, 2), 7);
        due("account(7)", x.account(7), 1);
        says("Promise 6:", "the block");
        due("blockOf(8, 1)", x.blockOf(8, 1), NOTHING);
        says("Promise 6:", "Returns the block that was its holder; ");
        due("cut(1)", x.cut(1), 0);
        due("cut(15)", x.cut(15), 14);
        says("Promise 6:", "NONE if there is no such block; ");
        dueNone("cut", chain(), QuarryRopes::cut);
        says("Promise 6:", "REFUSED for 4.");
        dueRefusal(x, "cut(0)", x.cut(0), 4, 0);
        dueRefusal(x, "cut(15) for a second time", x.cut(15), 4, 15);
        due("account(7)", x.account(7), 3);
    }

    private static void walk() {
        says("Promise 7:", "Walks to a block.");
        QuarryRopes x = chain();
        x.walk(3);
        dueRopes(x, "0-1-2-3");
        says("Promise 7:", "the block");
        x.walk(1);
        dueRopes(x, "0-1 2-3");
        says("Promise 7:", "Returns the weights of it and of all above it, together; ");
        int[] sums = {5, 12, 21, 32};
        for (int block = 0; block < 4; block++) {
            due("walk(" + block + ")", x.walk(block), sums[block]);
        }
        QuarryRopes y = blocks(99, 99, 99, 99, 99, 99, 99, 99, 99, 99, 99, 99, 99, 99, 99, 99);
        for (int root = 1; root < 16; root++) {
            y.hang(root, root - 1);
        }
        due("walk(15) of the most", y.walk(15), 1584);
        due("walk(0)", blocks(0).walk(0), 0);
        says("Promise 7:", "NONE if there is no such block.");
        dueNone("walk", chain(), QuarryRopes::walk);
    }

    private static void up() {
        says("Promise 8:", "Goes up from a block.");
        QuarryRopes x = chain();
        x.up(3);
        dueTree(x, 3, "(0((1(2))3))");
        says("Promise 8:", "the block");
        x.up(1);
        dueTree(x, 1, "(0(1))");
        says("Promise 8:", "Returns its root; ");
        for (int block = 0; block < 4; block++) {
            due("up(" + block + ")", x.up(block), 0);
        }
        x.cut(2);
        due("up(3)", x.up(3), 2);
        due("up(2) of a root", x.up(2), 2);
        due("up(15)", deepest().up(15), 0);
        QuarryRopes y = backwards();
        due("up(0)", y.up(0), 15);
        due("treeOf(15, 2)", y.treeOf(15, 2), NOTHING);
        due("treeOf(15, 0)", y.treeOf(15, 0), NOTHING);
        due("treeOf(15, 5)", y.treeOf(15, 5), 16);
        dueRopes(y, "15-14-13-12-11-10-9-8-7-6-5-4-3-2-1-0");
        says("Promise 8:", "NONE if there is no such block.");
        dueNone("up", chain(), QuarryRopes::up);
    }

    private static void weigh() {
        says("Promise 9:", "Gives a block another weight.");
        QuarryRopes x = chain();
        x.weigh(1, 0);
        due("blockOf(1, 0)", x.blockOf(1, 0), 0);
        due("sum(3)", x.sum(3), 25);
        due("treeOf(2, 6)", x.treeOf(2, 6), 14);
        due("account(3)", x.account(3), 25);
        says("Promise 9:", "the block");
        due("blockOf(2, 0)", x.blockOf(2, 0), 9);
        says("Promise 9:", "the weight");
        due("weigh(0, 99)", x.weigh(0, 99), 5);
        due("blockOf(0, 0)", x.blockOf(0, 0), 99);
        says("Promise 9:", "Returns its weight before; ");
        due("weigh(0, 1)", x.weigh(0, 1), 99);
        due("weigh(1, 1)", x.weigh(1, 1), 0);
        says("Promise 9:", "NONE if there is no such block; ");
        dueNone("weigh", chain(), (z, block) -> z.weigh(block, 50));
        dueNone("weigh by a bad weight", chain(), (z, block) -> z.weigh(block, 100));
        says("Promise 9:", "BAD if the weight is out of range; ");
        for (int weight : new int[] {-1, 100, 101, -100, Integer.MIN_VALUE, Integer.MAX_VALUE}) {
            due("weigh(0, " + weight + ")", x.weigh(0, weight), BAD);
        }
        due("blockOf(0, 0)", x.blockOf(0, 0), 1);
        says("Promise 9:", "REFUSED for 5.");
        dueRefusal(x, "weigh(0, 1)", x.weigh(0, 1), 5, 1);
        dueRefusal(x, "weigh(3, 11)", x.weigh(3, 11), 5, 11);
    }

    private static void sledge() {
        says("Promise 10:", "Sets a sledge at a block.");
        QuarryRopes x = chain();
        x.sledge(3);
        due("blockOf(3, 6)", x.blockOf(3, 6), 1);
        due("account(8)", x.account(8), 1);
        due("account(4)", x.account(4), 6);
        says("Promise 10:", "the block");
        due("sledgeOf(0, 0)", x.sledgeOf(0, 0), 3);
        due("sledgeOf(0, 1)", x.sledgeOf(0, 1), 11);
        due("sledgeOf(0, 2)", x.sledgeOf(0, 2), 0);
        due("sledgeOf(0, 3)", x.sledgeOf(0, 3), 0);
        says("Promise 10:", "Returns the number of the sledge; ");
        due("sledge(0)", x.sledge(0), 1);
        x.pull();
        due("sledge(0)", x.sledge(0), 2);
        says("Promise 10:", "NONE if there is no such block; ");
        dueNone("sledge", chain(), QuarryRopes::sledge);
        dueNone("sledge beyond 3", x, QuarryRopes::sledge);
        says("Promise 10:", "REFUSED for 1.");
        dueRefusal(x, "sledge(0)", x.sledge(0), 1, 3);
        x.undo();
        due("sledge(1) after undo", x.sledge(1), 2);
        dueRefusal(x, "sledge(1)", x.sledge(1), 1, 3);
    }

    private static void pull() {
        says("Promise 11:", "Pulls the sledges.");
        QuarryRopes x = deepest();
        x.sledge(15);
        x.sledge(1);
        x.sledge(0);
        says("Promise 11:", "Returns how many arrive; ");
        due("pull()", x.pull(), 1);
        due("pull()", x.pull(), 1);
        for (int pulls = 3; pulls <= 15; pulls++) {
            due("pull()", x.pull(), 0);
        }
        due("pull() as the 16th", x.pull(), 1);
        due("sledgeOf(0, 2)", x.sledgeOf(0, 2), 16);
        QuarryRopes y = blocks(1);
        y.sledge(0);
        y.sledge(0);
        y.sledge(0);
        due("pull() of 3 at a root", y.pull(), 3);
        due("account(4)", y.account(4), 3);
        says("Promise 11:", "REFUSED for 6.");
        dueRefusal(x, "pull() as all arrived", x.pull(), 6, 3);
        QuarryRopes z = new QuarryRopes();
        dueRefusal(z, "pull() without any", z.pull(), 6, 0);
        y.undo();
        due("pull() after undo", y.pull(), 3);
    }

    private static void read() {
        says("Promise 12:", "Carries out the commands of the input, one after the other, all of them or none.");
        QuarryRopes x = new QuarryRopes();
        due("read()", read(x, "block 1;block 2;hang 1 0;walk 1;cut 1;hang 0 1;sledge 0;pull"), 8);
        dueAccounts(x, 2, 1, 1, 3, 7, 2, 2, 1, 1, 0, 0, 0, 1);
        due("read() of a last one that is refused", read(x, "cut 0;weigh 0 9;pull;pull"), REFUSED);
        dueAccounts(x, 2, 1, 1, 3, 7, 2, 2, 1, 1, 0, 0, 0, 1);
        due("sledgeOf(0, 2)", x.sledgeOf(0, 2), 1);
        due("read() of a fault at its end", read(x, "cut 0;"), BAD);
        due("blockOf(0, 1)", x.blockOf(0, 1), 1);
        due("undo()", x.undo(), 0);
        due("account(0)", x.account(0), 0);
        says("Promise 12:", "The input is empty then, whatever is returned.");
        QuarryRopes y = blocks(1);
        for (String text : new String[] {"up 0", "up", "up 1", "pull", ""}) {
            read(y, text);
            due("account(11) after " + text, y.account(11), 0);
            due("append('u') after " + text, y.append('u'), 1);
            due("read()", read(y, "p 0"), 1);
        }
        says("Promise 12:", "Returns the number of commands; ");
        due("read() of one", read(y, "up 0"), 1);
        due("read() of twelve", read(y, "up 0;up 0;up 0;up 0;up 0;up 0;up 0;up 0;up 0;up 0;up 0;up 00"), 12);
        says("Promise 12:", "BAD, where the fault position is kept; ");
        due("read() of nothing", y.read(), BAD);
        due("fault()", y.fault(), 0);
        due("read() of 60", read(y, "up 0;up 0;up 0;up 0;up 0;up 0;up 0;up 0;up 0;up 0;up 0;up 0;"), BAD);
        due("fault()", y.fault(), 60);
        due("read()", read(y, "up 0"), 1);
        due("fault()", y.fault(), 60);
        says("Promise 12:", "REFUSED for 7 or 8.");
        due("read()", read(y, "up 0;cut 0"), REFUSED);
        dueReason(y, 7, 1);
        due("read()", read(y, "up 0;up 0;cut 1"), REFUSED);
        dueReason(y, 8, 2);
        due("read() of blocks that come", read(y, "block 5;hang 1 0;cut 1;cut 1"), REFUSED);
        dueReason(y, 7, 3);
        due("account(0)", y.account(0), 1);
    }

    private static void fault() {
        says("Promise 13:", "Returns the fault position of the latest text that had a fault.");
        QuarryRopes x = blocks(1);
        read(x, "walk 0;walk");
        read(x, "up 0");
        read(x, "cut 0");
        says("Promise 13:", "Returns the position; ");
        due("fault()", x.fault(), 11);
        read(x, "upp");
        due("fault() of the latest", x.fault(), 2);
        read(x, "");
        due("fault() of the empty text", x.fault(), 0);
        says("Promise 13:", "NOTHING if none had one.");
        QuarryRopes y = blocks(1);
        due("fault()", y.fault(), NOTHING);
        read(y, "up 0");
        read(y, "cut 0");
        read(y, "cut 1");
        type(y, "x");
        due("fault()", y.fault(), NOTHING);
    }

    private static void reason() {
        says("Promise 14:", "Returns the reason for which something was refused last, the one that stands behind it, or a detail.");
        QuarryRopes x = chain();
        read(x, "walk 1;weigh 1 7");
        says("Promise 14:", "0 for the reason, 1 for the one behind it");
        due("reason(0, false)", x.reason(0, false), 7);
        due("reason(1, false)", x.reason(1, false), 5);
        says("Promise 14:", "true for the detail, false for the reason");
        due("reason(0, true)", x.reason(0, true), 1);
        due("reason(1, true)", x.reason(1, true), 7);
        says("Promise 14:", "Returns the number; ");
        x.hang(3, 0);
        dueReason(x, 2, 2);
        says("Promise 14:", "BAD if depth is not from 0 to 1; ");
        for (int depth : new int[] {-1, 2, 3, -2, Integer.MIN_VALUE, Integer.MAX_VALUE}) {
            due("reason(" + depth + ", false)", x.reason(depth, false), BAD);
            due("reason(" + depth + ", true)", x.reason(depth, true), BAD);
            due("reason(" + depth + ", false) as none was refused", chain().reason(depth, false), BAD);
        }
        says("Promise 14:", "NOTHING if nothing was refused, or there is none behind it.");
        dueReasonBehind(x, NOTHING, NOTHING);
        read(x, "cut 9");
        dueReason(x, 8, 0);
        dueReasonBehind(x, NOTHING, NOTHING);
        QuarryRopes y = chain();
        y.block(100);
        y.walk(4);
        read(y, "w");
        dueReason(y, NOTHING, NOTHING);
        dueReasonBehind(y, NOTHING, NOTHING);
    }

    /** Block 0 holds 1 and 2, 2 holds 3, 3 holds 4; 5 is alone. */
    private static QuarryRopes spread() {
        QuarryRopes x = blocks(5, 7, 9, 11, 13, 0);
        x.hang(1, 0);
        x.hang(2, 0);
        x.hang(3, 2);
        x.hang(4, 3);
        return x;
    }

    private static void dueOfBlocks(String sentence, int what, int... want) {
        says("Promise 15:", sentence);
        QuarryRopes x = spread();
        x.sledge(4);
        x.sledge(4);
        x.sledge(5);
        x.pull();
        for (int block = 0; block < 6; block++) {
            due("blockOf(" + block + ", " + what + ")", x.blockOf(block, what), want[block]);
        }
    }

    private static void blockOf() {
        says("Promise 15:", "Returns a number of a block.");
        due("blockOf(0, 0)", blocks(99).blockOf(0, 0), 99);
        says("Promise 15:", "the block");
        due("blockOf(15, 0)", full().blockOf(15, 0), 15);
        dueOfBlocks("0 for its weight; ", 0, 5, 7, 9, 11, 13, 0);
        dueOfBlocks("1 for its holder, or NOTHING; ", 1, NOTHING, 0, 0, 2, 3, NOTHING);
        dueOfBlocks("2 for its depth; ", 2, 0, 1, 1, 2, 3, 0);
        dueOfBlocks("3 for how many blocks hang on it at once; ", 3, 2, 0, 1, 1, 0, 0);
        dueOfBlocks("4 for how many hang on it in all, at once or on others; ", 4, 4, 0, 2, 1, 0, 0);
        dueOfBlocks("5 for how many blocks its hang has; ", 5, 5, 5, 5, 5, 5, 1);
        dueOfBlocks("6 for how many sledges are there at it", 6, 0, 0, 0, 2, 0, 0);
        says("Promise 15:", "Returns the number; ");
        QuarryRopes x = full();
        for (int root = 1; root < 16; root++) {
            x.hang(root, 0);
        }
        due("blockOf(0, 3) of all others", x.blockOf(0, 3), 15);
        due("blockOf(0, 4) of all others", x.blockOf(0, 4), 15);
        due("blockOf(0, 5) of all", x.blockOf(0, 5), 16);
        QuarryRopes y = backwards();
        due("blockOf(15, 3)", y.blockOf(15, 3), 1);
        due("blockOf(15, 4)", y.blockOf(15, 4), 15);
        due("blockOf(1, 4)", y.blockOf(1, 4), 1);
        due("blockOf(0, 5)", y.blockOf(0, 5), 16);
        due("blockOf(0, 2)", y.blockOf(0, 2), 15);
        says("Promise 15:", "NONE if there is no such block; ");
        for (int what = -1; what <= 7; what++) {
            int asked = what;
            dueNone("blockOf for " + what, spread(), (z, block) -> z.blockOf(block, asked));
        }
        says("Promise 15:", "BAD if there is no such what.");
        dueBadWhats("blockOf", 7, (z, what) -> z.blockOf(0, what));
    }

    private static void dueBadWhats(String call, int count, BlockCall made) {
        QuarryRopes x = spread();
        x.sledge(0);
        for (int what : new int[] {Integer.MIN_VALUE, -1, count, count + 1, 100, Integer.MAX_VALUE}) {
            due(call + " for " + what, made.on(x, what), BAD);
        }
    }

    private static void dueOfTree(String sentence, int what, int... want) {
        says("Promise 16:", sentence);
        QuarryRopes x = chain();
        x.block(0);
        x.up(3);
        for (int block = 0; block < 5; block++) {
            due("treeOf(" + block + ", " + what + ")", x.treeOf(block, what), want[block]);
        }
    }

    private static void treeOf() {
        says("Promise 16:", "Returns a number of a block in the tree of its rope.");
        due("treeOf(3, 5)", risen().treeOf(3, 5), 3);
        says("Promise 16:", "the block");
        due("treeOf(15, 3)", full().treeOf(15, 3), 15);
        dueOfTree("0 for its left one, ", 0, NOTHING, NOTHING, NOTHING, 1, NOTHING);
        dueOfTree("1 for its right one, ", 1, 3, 2, NOTHING, NOTHING, NOTHING);
        dueOfTree("2 for its upper one, ", 2, NOTHING, 3, 1, 0, NOTHING);
        dueOfTree("3 for the head, ", 3, 0, 0, 0, 0, 4);
        says("Promise 16:", "each of them NOTHING without one; ");
        for (int what = 0; what < 3; what++) {
            due("treeOf(0, " + what + ")", blocks(1).treeOf(0, what), NOTHING);
        }
        dueOfTree("4 for how many are above it in the tree; ", 4, 0, 2, 3, 1, 0);
        dueOfTree("5 for how many it has at it and below it in the tree; ", 5, 4, 2, 1, 3, 1);
        dueOfTree("6 for the weights of these, together", 6, 32, 16, 9, 27, 0);
        says("Promise 16:", "Returns the number; ");
        QuarryRopes x = deepest();
        x.walk(15);
        due("treeOf(15, 5) of the most", x.treeOf(15, 5), 16);
        due("treeOf(15, 6)", x.treeOf(15, 6), 120);
        due("treeOf(13, 4)", x.treeOf(13, 4), 9);
        says("Promise 16:", "NONE if there is no such block; ");
        for (int what = -1; what <= 7; what++) {
            int asked = what;
            dueNone("treeOf for " + what, risen(), (z, block) -> z.treeOf(block, asked));
        }
        says("Promise 16:", "BAD if there is no such what.");
        dueBadWhats("treeOf", 7, (z, what) -> z.treeOf(0, what));
    }

    private static void ropeOf() {
        says("Promise 17:", "Returns a block of the rope of a block.");
        QuarryRopes x = chain();
        due("ropeOf(0, 2)", x.ropeOf(0, 2), 2);
        due("ropeOf(2, 0)", x.ropeOf(2, 0), 0);
        says("Promise 17:", "the block");
        due("ropeOf(3, 0)", x.ropeOf(3, 0), 3);
        says("Promise 17:", "the place on the rope, from 0 for its top");
        for (int place = 0; place < 3; place++) {
            due("ropeOf(1, " + place + ")", x.ropeOf(1, place), place);
        }
        says("Promise 17:", "Returns the other block; ");
        QuarryRopes y = deepest();
        y.walk(15);
        for (int place = 0; place < 16; place++) {
            due("ropeOf(7, " + place + ")", y.ropeOf(7, place), place);
        }
        says("Promise 17:", "NONE if there is no such block or place.");
        dueNone("ropeOf", chain(), (z, block) -> z.ropeOf(block, 0));
        due("ropeOf(1, 3)", x.ropeOf(1, 3), NONE);
        due("ropeOf(3, 1)", x.ropeOf(3, 1), NONE);
        due("ropeOf(3, -1)", x.ropeOf(3, -1), NONE);
        for (int place : FAR) {
            due("ropeOf(7, " + place + ")", y.ropeOf(7, place), NONE);
        }
    }

    private static void placeOf() {
        says("Promise 18:", "Returns the place of a block on its rope.");
        QuarryRopes x = chain();
        due("placeOf(2)", x.placeOf(2), 2);
        x.walk(1);
        due("placeOf(2) on another rope", x.placeOf(2), 0);
        says("Promise 18:", "the block");
        due("placeOf(1)", x.placeOf(1), 1);
        says("Promise 18:", "Returns the place, from 0; ");
        due("placeOf(0)", x.placeOf(0), 0);
        QuarryRopes y = deepest();
        due("placeOf(15) as a rope alone", y.placeOf(15), 0);
        y.walk(15);
        due("placeOf(15)", y.placeOf(15), 15);
        says("Promise 18:", "NONE if there is no such block.");
        dueNone("placeOf", chain(), QuarryRopes::placeOf);
    }

    private static void ropes() {
        says("Promise 19:", "Returns how many ropes there are.");
        QuarryRopes x = deepest();
        x.walk(14);
        due("ropes()", x.ropes(), 2);
        says("Promise 19:", "Returns how many.");
        due("ropes() without blocks", new QuarryRopes().ropes(), 0);
        due("ropes() of 16 alone", full().ropes(), 16);
        x.walk(15);
        due("ropes() of all on one", x.ropes(), 1);
    }

    private static void ropesAbove() {
        says("Promise 20:", "Returns how many ropes one comes through from a block up to its root.");
        QuarryRopes x = spread();
        x.walk(1);
        dueRopes(x, "0-1 2-3 4 5");
        int[] want = {1, 1, 2, 2, 3, 1};
        for (int block = 0; block < 6; block++) {
            due("ropesAbove(" + block + ")", x.ropesAbove(block), want[block]);
        }
        says("Promise 20:", "the block");
        x.walk(4);
        due("ropesAbove(1)", x.ropesAbove(1), 2);
        says("Promise 20:", "Returns how many, 1 if they are on one rope; ");
        due("ropesAbove(4)", x.ropesAbove(4), 1);
        due("ropesAbove(0)", x.ropesAbove(0), 1);
        due("ropesAbove(15) of 16 ropes", deepest().ropesAbove(15), 16);
        says("Promise 20:", "NONE if there is no such block.");
        dueNone("ropesAbove", chain(), QuarryRopes::ropesAbove);
    }

    private static void turnsFor() {
        says("Promise 21:", "Returns how many turns it would take to expose a block now.");
        QuarryRopes x = risen();
        int[] want = {0, 2, 3, 1};
        for (int block = 0; block < 4; block++) {
            due("turnsFor(" + block + ")", x.turnsFor(block), want[block]);
        }
        due("account(5)", x.account(5), 6);
        dueTree(x, 0, "(0((1(2))3))");
        says("Promise 21:", "the block");
        x.walk(2);
        due("account(5)", x.account(5), 9);
        says("Promise 21:", "Returns how many; ");
        due("turnsFor(2) of one that is exposed", x.turnsFor(2), 0);
        due("turnsFor(0) of one alone", blocks(1).turnsFor(0), 0);
        due("turnsFor(15) of 16 ropes", deepest().turnsFor(15), 15);
        says("Promise 21:", "NONE if there is no such block.");
        dueNone("turnsFor", chain(), QuarryRopes::turnsFor);
    }

    private static void dueOfAll(String call, BlockCall made, int... want) {
        QuarryRopes x = spread();
        for (int walks = -1; walks < 6; walks++) {
            if (walks >= 0) {
                x.walk(walks);
            }
            for (int block = 0; block < 6; block++) {
                due(call + " of " + block + " after walk " + walks, made.on(x, block), want[block]);
            }
        }
    }

    private static void sums() {
        says("Promise 22:", "Returns the weights of a block and of all above it, together: rope by rope, by what is left in the trees.");
        dueOfAll("sum", QuarryRopes::sum, 5, 12, 14, 25, 38, 0);
        says("Promise 22:", "the block");
        due("sum(15) of 16 ropes", deepest().sum(15), 120);
        says("Promise 22:", "Returns the sum; ");
        QuarryRopes x = deepest();
        x.walk(15);
        due("sum(15) of one rope", x.sum(15), 120);
        due("sum(0)", x.sum(0), 0);
        due("sum(14)", x.sum(14), 105);
        says("Promise 22:", "NONE if there is no such block.");
        dueNone("sum", chain(), QuarryRopes::sum);
        says("Promise 23:", "Returns the same by a second way: holder by holder.");
        dueOfAll("sumAgain", QuarryRopes::sumAgain, 5, 12, 14, 25, 38, 0);
        says("Promise 23:", "the block");
        due("sumAgain(15) of 16 ropes", deepest().sumAgain(15), 120);
        says("Promise 23:", "Returns the sum; ");
        due("sumAgain(0)", x.sumAgain(0), 0);
        due("sumAgain(14)", x.sumAgain(14), 105);
        says("Promise 23:", "NONE if there is no such block.");
        dueNone("sumAgain", chain(), QuarryRopes::sumAgain);
    }

    private static void roots() {
        says("Promise 24:", "Returns the root of a block: by the tops of ropes.");
        dueOfAll("root", QuarryRopes::root, 0, 0, 0, 0, 0, 5);
        says("Promise 24:", "the block");
        due("root(15) of 16 ropes", deepest().root(15), 0);
        says("Promise 24:", "Returns the root; ");
        due("root(15) of itself", full().root(15), 15);
        says("Promise 24:", "NONE if there is no such block.");
        dueNone("root", chain(), QuarryRopes::root);
        says("Promise 25:", "Returns the same by a second way: holder by holder.");
        dueOfAll("rootAgain", QuarryRopes::rootAgain, 0, 0, 0, 0, 0, 5);
        says("Promise 25:", "the block");
        due("rootAgain(15) of 16 ropes", deepest().rootAgain(15), 0);
        says("Promise 25:", "Returns the root; ");
        due("rootAgain(15) of itself", full().rootAgain(15), 15);
        says("Promise 25:", "NONE if there is no such block.");
        dueNone("rootAgain", chain(), QuarryRopes::rootAgain);
    }

    private static void joints() {
        says("Promise 26:", "Returns the joint of two blocks, the deepest block that is each of both or above it: by ropes, going up from "
            + "the one whose rope has the deeper top, until both are on one rope.");
        dueOfAll("joint with 1", (x, block) -> x.joint(1, block), 0, 1, 0, 0, 0, NOTHING);
        dueOfAll("joint with 3", (x, block) -> x.joint(block, 3), 0, 0, 2, 3, 3, NOTHING);
        says("Promise 26:", "the one block");
        due("joint(15, 3)", deepest().joint(15, 3), 3);
        says("Promise 26:", "the other one, or the same");
        due("joint(3, 15)", deepest().joint(3, 15), 3);
        due("joint(15, 15)", deepest().joint(15, 15), 15);
        due("joint(0, 15)", backwards().joint(0, 15), 15);
        due("joint(15, 0)", backwards().joint(15, 0), 15);
        says("Promise 26:", "Returns the joint; ");
        due("joint(0, 15)", deepest().joint(0, 15), 0);
        due("joint(0, 0)", blocks(1).joint(0, 0), 0);
        says("Promise 26:", "NONE if there is no such block, for either; ");
        dueNone("joint as the one", chain(), (x, block) -> x.joint(block, 0));
        dueNone("joint as the other", chain(), (x, block) -> x.joint(0, block));
        dueNone("joint as both", chain(), (x, block) -> x.joint(block, block));
        says("Promise 26:", "NOTHING if they are of unlike hangs.");
        due("joint(0, 15)", full().joint(0, 15), NOTHING);
        due("joint(4, 5)", spread().joint(4, 5), NOTHING);
        due("joint(5, 0)", spread().joint(5, 0), NOTHING);
    }

    private static void jointsAgain() {
        says("Promise 27:", "Returns the same by a second way: by all that are above both.");
        dueOfAll("jointAgain with 1", (x, block) -> x.jointAgain(1, block), 0, 1, 0, 0, 0, NOTHING);
        dueOfAll("jointAgain with 3", (x, block) -> x.jointAgain(block, 3), 0, 0, 2, 3, 3, NOTHING);
        says("Promise 27:", "the one block");
        due("jointAgain(15, 3)", deepest().jointAgain(15, 3), 3);
        says("Promise 27:", "the other one, or the same");
        due("jointAgain(3, 15)", deepest().jointAgain(3, 15), 3);
        due("jointAgain(15, 15)", deepest().jointAgain(15, 15), 15);
        due("jointAgain(0, 15)", backwards().jointAgain(0, 15), 15);
        due("jointAgain(15, 0)", backwards().jointAgain(15, 0), 15);
        says("Promise 27:", "Returns the joint; ");
        due("jointAgain(0, 15)", deepest().jointAgain(0, 15), 0);
        due("jointAgain(0, 0)", blocks(1).jointAgain(0, 0), 0);
        says("Promise 27:", "NONE if there is no such block, for either; ");
        dueNone("jointAgain as the one", chain(), (x, block) -> x.jointAgain(block, 0));
        dueNone("jointAgain as the other", chain(), (x, block) -> x.jointAgain(0, block));
        dueNone("jointAgain as both", chain(), (x, block) -> x.jointAgain(block, block));
        says("Promise 27:", "NOTHING if they are of unlike hangs.");
        due("jointAgain(0, 15)", full().jointAgain(0, 15), NOTHING);
        due("jointAgain(4, 5)", spread().jointAgain(4, 5), NOTHING);
        due("jointAgain(5, 0)", spread().jointAgain(5, 0), NOTHING);
    }

    private static void dueOfSledges(String sentence, int what, int... want) {
        says("Promise 28:", sentence);
        QuarryRopes x = chain();
        x.sledge(0);
        x.sledge(3);
        x.pull();
        x.pull();
        x.sledge(1);
        for (int sledge = 0; sledge < 3; sledge++) {
            due("sledgeOf(" + sledge + ", " + what + ")", x.sledgeOf(sledge, what), want[sledge]);
        }
    }

    private static void sledgeOf() {
        says("Promise 28:", "Returns a number of a sledge.");
        QuarryRopes x = blocks(7);
        due("sledgeOf(0, 0) before it is set", x.sledgeOf(0, 0), NONE);
        says("Promise 28:", "the sledge");
        x.sledge(0);
        due("sledgeOf(0, 1)", x.sledgeOf(0, 1), 7);
        dueOfSledges("0 for the block at which it is, or at which it arrived; ", 0, 0, 1, 1);
        dueOfSledges("1 for its load; ", 1, 5, 11, 7);
        dueOfSledges("2 for how often it was pulled so far, its arrival included; ", 2, 1, 2, 0);
        dueOfSledges("3 for 1 if it arrived, 0 otherwise", 3, 1, 0, 0);
        says("Promise 28:", "Returns the number; ");
        due("sledgeOf(0, 3)", x.sledgeOf(0, 3), 0);
        x.pull();
        due("sledgeOf(0, 3)", x.sledgeOf(0, 3), 1);
        says("Promise 28:", "NONE if there is no such sledge; ");
        due("sledgeOf(1, 0)", x.sledgeOf(1, 0), NONE);
        x.sledge(0);
        x.sledge(0);
        due("sledgeOf(2, 0)", x.sledgeOf(2, 0), 0);
        for (int sledge : new int[] {Integer.MIN_VALUE, -1, 3, 4, Integer.MAX_VALUE}) {
            due("sledgeOf(" + sledge + ", 0)", x.sledgeOf(sledge, 0), NONE);
            due("sledgeOf(" + sledge + ", 4)", x.sledgeOf(sledge, 4), NONE);
        }
        says("Promise 28:", "BAD if there is no such what.");
        dueBadWhats("sledgeOf", 4, (z, what) -> z.sledgeOf(0, what));
    }

    private static void ranked() {
        says("Promise 29:", "Returns a block by its weight, the most first, of several the one with the lower depth, then the lowest one.");
        QuarryRopes x = blocks(3, 7, 7, 7, 0, 9, 7);
        x.hang(1, 4);
        x.hang(2, 1);
        x.hang(6, 4);
        int[] want = {5, 3, 1, 6, 2, 0, 4};
        for (int place = 0; place < 7; place++) {
            due("ranked(" + place + ")", x.ranked(place), want[place]);
        }
        says("Promise 29:", "the place, from 0");
        due("ranked(0)", full().ranked(0), 15);
        due("ranked(15)", full().ranked(15), 0);
        says("Promise 29:", "Returns the block; ");
        QuarryRopes y = blocks(1, 1);
        due("ranked(0) of two alike", y.ranked(0), 0);
        y.hang(0, 1);
        due("ranked(0) of the lower depth", y.ranked(0), 1);
        says("Promise 29:", "NONE if there is no such place.");
        dueNone("ranked", chain(), QuarryRopes::ranked);
    }

    private static void tellTree() {
        says("Promise 30:", "Writes the tree of the rope of a block as a line, in place of the one before: for the head, and in the same "
            + "way for each other block, \"(\", the left one with all below it, the number, the right one with all below it, and \")\"; as "
            + "in \"((1)4(7))\".");
        QuarryRopes x = blocks(0, 1, 2, 3, 4, 5, 6, 7);
        x.hang(4, 1);
        x.hang(7, 4);
        x.walk(7);
        dueTree(x, 4, "(((1)4)7)");
        x.walk(1);
        x.walk(7);
        dueTree(x, 7, "((1(4))7)");
        dueTree(x, 0, "(0)");
        says("Promise 30:", "the block");
        dueTree(x, 1, "((1(4))7)");
        says("Promise 30:", "Returns the length of the line; ");
        due("tellTree(15)", full().tellTree(15), 4);
        QuarryRopes y = deepest();
        y.walk(15);
        dueTree(y, 8, "((0((1)2((3)4((5)6((7)8((9)10((11)12((13)14))))))))15)");
        due("tellTree(8) of the most", y.tellTree(8), 54);
        due("written(53)", y.written(53), ')');
        due("written(54)", y.written(54), NONE);
        says("Promise 30:", "NONE if there is no such block.");
        dueNone("tellTree", chain(), QuarryRopes::tellTree);
        due("tellTree(16)", y.tellTree(16), NONE);
        due("written(53) as the line stays", y.written(53), ')');
    }

    private static void tellRopes() {
        says("Promise 31:", "Writes all ropes as a line, in place of the one before: by the numbers of their tops, the blocks from the top "
            + "on, with \"-\" between two, and a blank between two ropes.");
        QuarryRopes x = blocks(1, 2, 3, 4);
        x.hang(0, 3);
        x.walk(0);
        dueRopes(x, "1 2 3-0");
        x.tellTree(0);
        dueRopes(x, "1 2 3-0");
        says("Promise 31:", "Returns the length of the line.");
        dueRopes(new QuarryRopes(), "");
        dueRopes(blocks(9), "0");
        dueRopes(full(), "0 1 2 3 4 5 6 7 8 9 10 11 12 13 14 15");
        QuarryRopes y = deepest();
        y.walk(15);
        dueRopes(y, "0-1-2-3-4-5-6-7-8-9-10-11-12-13-14-15");
        y.walk(10);
        dueRopes(y, "0-1-2-3-4-5-6-7-8-9-10 11-12-13-14-15");
    }

    private static void written() {
        says("Promise 32:", "Returns the code of a character of the written line, which is empty at first.");
        QuarryRopes x = blocks(1, 2);
        due("written(0) at first", x.written(0), NONE);
        x.tellRopes();
        due("written(1)", x.written(1), ' ');
        says("Promise 32:", "its index, from 0");
        due("written(0)", x.written(0), '0');
        says("Promise 32:", "Returns the code; ");
        due("written(2)", x.written(2), '1');
        says("Promise 32:", "NONE if there is none.");
        for (int index : new int[] {Integer.MIN_VALUE, -2, -1, 3, 4, 54, 60, Integer.MAX_VALUE}) {
            due("written(" + index + ")", x.written(index), NONE);
        }
        x.clear();
        x.tellRopes();
        due("written(0) of an empty line", x.written(0), NONE);
    }

    private static void isWell() {
        says("Promise 33:", "Returns whether sums, roots and joints are told alike by both ways, each block but a top hangs on the one ahead "
            + "of it on its rope, and each block is on one rope.");
        QuarryRopes x = spread();
        for (int block = 0; block < 6; block++) {
            x.walk(block);
            due("isWell() after walk", x.isWell(), 1);
            x.up(block);
            due("isWell() after up", x.isWell(), 1);
        }
        x.cut(2);
        due("isWell() after cut", x.isWell(), 1);
        x.hang(0, 4);
        due("isWell() after hang", x.isWell(), 1);
        x.undo();
        due("isWell() after undo", x.isWell(), 1);
        says("Promise 33:", "Returns 1 if it is so, 0 otherwise.");
        due("isWell() without blocks", new QuarryRopes().isWell(), 1);
        due("isWell() of 16 ropes", deepest().isWell(), 1);
        QuarryRopes y = deepest();
        y.walk(15);
        due("isWell() of one rope", y.isWell(), 1);
        due("isWell() of 16 ropes, backwards", backwards().isWell(), 1);
    }

    private static void shares() {
        says("Promise 34:", "Returns the mean depth of the blocks: the sum divided by their number, both converted to float.");
        QuarryRopes x = spread();
        due("meanDepth()", x.meanDepth(), 7.0f / 6.0f);
        due("meanDepth() of the deepest", deepest().meanDepth(), 7.5f);
        due("meanDepth() of the deepest, backwards", backwards().meanDepth(), 7.5f);
        says("Promise 34:", "Returns the mean; ");
        due("meanDepth() of roots", full().meanDepth(), 0.0f);
        QuarryRopes y = blocks(1, 1, 1);
        y.hang(1, 0);
        due("meanDepth()", y.meanDepth(), 1.0f / 3.0f);
        says("Promise 34:", "0.0f without blocks.");
        due("meanDepth()", new QuarryRopes().meanDepth(), 0.0f);
        says("Promise 35:", "Returns the share of the blocks that are roots, both numbers converted to double.");
        due("rootShare()", x.rootShare(), 2.0 / 6.0);
        says("Promise 35:", "Returns the share; ");
        due("rootShare() of roots", full().rootShare(), 1.0);
        due("rootShare() of one", blocks(1).rootShare(), 1.0);
        due("rootShare() of the deepest", deepest().rootShare(), 1.0 / 16.0);
        due("rootShare()", y.rootShare(), 2.0 / 3.0);
        says("Promise 35:", "0.0 without blocks.");
        due("rootShare()", new QuarryRopes().rootShare(), 0.0);
        x.clear();
        due("meanDepth() of what was cleared", x.meanDepth(), 0.0f);
        due("rootShare() of what was cleared", x.rootShare(), 0.0);
    }

    private static void dueAccount(String sentence, int what, int before, int after) {
        says("Promise 36:", sentence);
        QuarryRopes x = chain();
        due("account(" + what + ")", x.account(what), before);
        x.block(30);
        x.sledge(0);
        x.sledge(4);
        x.sledge(2);
        x.pull();
        x.cut(1);
        type(x, "up ");
        due("account(" + what + ")", x.account(what), after);
    }

    private static void account() {
        says("Promise 36:", "Returns an account.");
        dueAccounts(new QuarryRopes(), 0, 0, 0, 0, 0, 0, 0, 0, 0, 0, 0, 0, 0);
        dueAccount("0 the blocks; ", 0, 4, 5);
        dueAccount("1 the roots; ", 1, 1, 3);
        dueAccount("2 the ropes; ", 2, 2, 5);
        dueAccount("3 the weights of all blocks, together; ", 3, 32, 62);
        dueAccount("4 the exposings so far; ", 4, 6, 10);
        dueAccount("5 the turns so far; ", 5, 2, 8);
        dueAccount("6 how often a block was hung so far; ", 6, 3, 3);
        dueAccount("7 how often one was cut off so far; ", 7, 0, 1);
        dueAccount("8 the sledges that are there; ", 8, 0, 1);
        dueAccount("9 those that arrived; ", 9, 0, 2);
        dueAccount("10 the loads of these, together; ", 10, 0, 35);
        dueAccount("11 the characters of the input; ", 11, 0, 3);
        dueAccount("12 the changes that can be undone", 12, 7, 8);
        says("Promise 36:", "Returns the account; ");
        QuarryRopes x = full();
        due("account(0) of the most", x.account(0), 16);
        due("account(1) of the most", x.account(1), 16);
        due("account(2) of the most", x.account(2), 16);
        due("account(3)", x.account(3), 120);
        due("account(12) of the most", x.account(12), 8);
        says("Promise 36:", "BAD if there is no such what.");
        for (int what : new int[] {Integer.MIN_VALUE, -2, -1, 13, 14, 100, Integer.MAX_VALUE}) {
            due("account(" + what + ")", x.account(what), BAD);
        }
    }

    private static void undo() {
        says("Promise 37:", "Undoes the latest change.");
        QuarryRopes x = chain();
        x.sledge(3);
        x.pull();
        QuarryRopes twin = chain();
        twin.sledge(3);
        due("undo() of pull", x.undo(), 7);
        twin.pull();
        twin.undo();
        dueAlike("undo()", x, twin);
        dueUndone("block", y -> y.block(1));
        dueUndone("hang", y -> y.hang(0, 4));
        dueUndone("cut", y -> y.cut(2));
        dueUndone("walk", y -> y.walk(3));
        dueUndone("up", y -> y.up(3));
        dueUndone("weigh", y -> y.weigh(3, 1));
        dueUndone("sledge", y -> y.sledge(3));
        dueUndone("pull", QuarryRopes::pull);
        dueUndone("read", y -> read(y, "cut 1;pull;up 3;block 3;hang 5 0;weigh 5 1;sledge 4"));
        says("Promise 37:", "Returns the number of changes that can still be undone; ");
        QuarryRopes z = blocks(1, 2, 3);
        due("undo()", z.undo(), 2);
        due("undo()", z.undo(), 1);
        due("block(9)", z.block(9), 1);
        due("undo()", z.undo(), 1);
        due("undo()", z.undo(), 0);
        says("Promise 37:", "NOTHING if there is none.");
        due("undo()", z.undo(), NOTHING);
        due("account(0)", z.account(0), 0);
        due("undo() on a new object", new QuarryRopes().undo(), NOTHING);
        z.block(1);
        z.clear();
        due("undo() after clear", z.undo(), NOTHING);
        z.save();
        z.block(1);
        z.restore();
        due("undo() after restore", z.undo(), NOTHING);
    }

    private static QuarryRopes laden() {
        QuarryRopes x = chain();
        x.block(13);
        x.sledge(1);
        x.sledge(4);
        return x;
    }

    private static void dueUndone(String call, Call made) {
        QuarryRopes x = laden();
        due(call, made.on(x) < 0 ? 1 : 0, 0);
        due("undo() of " + call, x.undo(), 7);
        QuarryRopes twin = laden();
        dueAccounts(x, 5, 2, 3, 45, 6, 2, 3, 0, 2, 0, 0, 0, 7);
        for (int what = 0; what < 7; what++) {
            for (int block = 0; block < 5; block++) {
                due("blockOf(" + block + ", " + what + ")", x.blockOf(block, what), twin.blockOf(block, what));
                due("treeOf(" + block + ", " + what + ")", x.treeOf(block, what), twin.treeOf(block, what));
            }
        }
        for (int what = 0; what < 4; what++) {
            due("sledgeOf(0, " + what + ")", x.sledgeOf(0, what), twin.sledgeOf(0, what));
            due("sledgeOf(1, " + what + ")", x.sledgeOf(1, what), twin.sledgeOf(1, what));
        }
        due("sledgeOf(2, 0)", x.sledgeOf(2, 0), NONE);
        due("sledge(0) that comes then", x.sledge(0), 2);
        due("sledgeOf(2, 1)", x.sledgeOf(2, 1), 5);
        due("sledgeOf(2, 2)", x.sledgeOf(2, 2), 0);
    }

    private static void save() {
        says("Promise 38:", "Saves all that changes can change, in place of what was saved before.");
        QuarryRopes x = laden();
        x.save();
        x.pull();
        x.cut(2);
        x.weigh(0, 99);
        x.save();
        x.walk(4);
        x.up(3);
        x.hang(2, 4);
        x.pull();
        x.block(1);
        x.sledge(5);
        x.weigh(3, 0);
        QuarryRopes twin = laden();
        twin.pull();
        twin.cut(2);
        twin.weigh(0, 99);
        twin.save();
        due("restore()", x.restore(), 5);
        due("restore()", twin.restore(), 5);
        dueAlike("restore()", x, twin);
        says("Promise 38:", "Returns how many blocks there are.");
        due("save() of none", new QuarryRopes().save(), 0);
        due("save() of 16", full().save(), 16);
        QuarryRopes y = blocks(1);
        due("save()", y.save(), 1);
        due("account(12) as it is no change", y.account(12), 1);
        y.clear();
        due("save() of none in place of one", y.save(), 0);
        y.block(2);
        due("restore()", y.restore(), 0);
    }

    private static void restore() {
        says("Promise 39:", "Restores what was saved, which stays saved.");
        QuarryRopes x = chain();
        x.save();
        for (int times = 0; times < 3; times++) {
            x.cut(1 + times);
            x.weigh(0, 50 + times);
            due("restore()", x.restore(), 4);
            due("blockOf(0, 0)", x.blockOf(0, 0), 5);
            due("account(7)", x.account(7), 0);
            dueRopes(x, "0-1-2 3");
        }
        x.clear();
        due("restore() after clear", x.restore(), 4);
        x = laden();
        x.save();
        x.clear();
        x.block(50);
        x.sledge(0);
        x.pull();
        x.sledge(0);
        due("restore()", x.restore(), 5);
        due("sledgeOf(0, 1)", x.sledgeOf(0, 1), 7);
        due("sledgeOf(1, 1)", x.sledgeOf(1, 1), 13);
        due("sledgeOf(0, 2)", x.sledgeOf(0, 2), 0);
        due("sledgeOf(0, 3)", x.sledgeOf(0, 3), 0);
        due("account(8)", x.account(8), 2);
        says("Promise 39:", "Nothing can be undone then.");
        due("account(12)", x.account(12), 0);
        due("undo()", x.undo(), NOTHING);
        x.walk(3);
        due("undo()", x.undo(), 0);
        dueRopes(x, "0-1-2 3 4");
        says("Promise 39:", "Returns how many blocks there are; ");
        QuarryRopes y = new QuarryRopes();
        y.save();
        y.block(1);
        due("restore() of none", y.restore(), 0);
        QuarryRopes z = full();
        z.save();
        z.clear();
        due("restore() of 16", z.restore(), 16);
        says("Promise 39:", "NOTHING if nothing was saved.");
        QuarryRopes w = chain();
        due("restore()", w.restore(), NOTHING);
        due("account(0)", w.account(0), 4);
        due("account(12)", w.account(12), 7);
        due("undo()", w.undo(), 6);
        due("restore() on a new object", new QuarryRopes().restore(), NOTHING);
    }

    private static void ofChanges() {
        newObject();
        clear();
        append();
        block();
        hang();
        cut();
        walk();
        up();
        weigh();
        sledge();
        pull();
        read();
    }

    private static void ofQuestions() {
        fault();
        reason();
        blockOf();
        treeOf();
        ropeOf();
        placeOf();
        ropes();
        ropesAbove();
        turnsFor();
        sums();
        roots();
        joints();
        jointsAgain();
        sledgeOf();
        ranked();
        tellTree();
        tellRopes();
        written();
        isWell();
        shares();
        account();
    }

    public static void main(String[] args) {
        ofChanges();
        ofQuestions();
        undo();
        save();
        restore();
        finish("PromiseEdgeTests", "Promise ");
    }
}
