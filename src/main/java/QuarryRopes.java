/**
 * A quarry in which blocks hang on one another by ropes, each rope with a tree that turns as
 * blocks are exposed. What every call promises stands in ../shared/DOC.md.
 */
public final class QuarryRopes {
    public static final int NONE = -1;
    public static final int BAD = -2;
    public static final int REFUSED = -3;
    public static final int NOTHING = -4;

    private static final int BLOCKS = 16;
    private static final int MOST_WEIGHT = 99;
    private static final int SLEDGES = 3;
    private static final int MOST_SIGNS = 60;
    private static final int FIRST_CODE = 32;
    private static final int LAST_CODE = 126;
    private static final int MOST_UNDOS = 8;
    // The longest line is a tree of all blocks: 32 brackets and 22 digits.
    private static final int MOST_LINE = 54;

    private static final int FULL = 1;
    private static final int NO_ROOT = 2;
    private static final int ONE_HANG = 3;
    private static final int IS_ROOT = 4;
    private static final int SO_ALREADY = 5;
    private static final int NO_SLEDGE = 6;
    private static final int COMMAND_REFUSED = 7;
    private static final int OTHER_CODE = 8;

    private static final Word[] WORDS = Word.values();

    private final Quarry now;
    private final Quarry kept;
    private final Quarry trial;
    private final History history;
    private final Input input;
    private final Line line;
    private final Reasons reasons;
    private int latestFault;
    private boolean isKept;

    /** Promise 1. */
    public QuarryRopes() {
        now = new Quarry();
        kept = new Quarry();
        trial = new Quarry();
        history = new History();
        input = new Input();
        line = new Line();
        reasons = new Reasons();
        latestFault = NOTHING;
        isKept = false;
    }

    /** Promise 2. */
    public int clear() {
        int before = now.blocks.count;
        now.makeEmpty();
        history.forget();
        return before;
    }

    /** Promise 3. */
    public int append(char character) {
        return input.add(character);
    }

    /** Promise 4. */
    public int block(int weight) {
        history.draft(now);
        return settled(now.addBlock(weight, reasons));
    }

    /** Promise 5. */
    public int hang(int root, int block) {
        history.draft(now);
        return settled(now.hangOn(root, block, reasons));
    }

    /** Promise 6. */
    public int cut(int block) {
        history.draft(now);
        return settled(now.cutOff(block, reasons));
    }

    /** Promise 7. */
    public int walk(int block) {
        history.draft(now);
        return settled(now.walkTo(block));
    }

    /** Promise 8. */
    public int up(int block) {
        history.draft(now);
        return settled(now.goUp(block));
    }

    /** Promise 9. */
    public int weigh(int block, int weight) {
        history.draft(now);
        return settled(now.changeWeight(block, weight, reasons));
    }

    /** Promise 10. */
    public int sledge(int block) {
        history.draft(now);
        return settled(now.setSledge(block, reasons));
    }

    /** Promise 11. */
    public int pull() {
        history.draft(now);
        return settled(now.pullSledges(reasons));
    }

    /** Promise 12. */
    public int read() {
        boolean isText = input.takeApart();
        input.makeEmpty();
        if (!isText) {
            latestFault = input.place;
            return BAD;
        }
        history.draft(now);
        for (int number = 0; number < input.commands; number++) {
            int code = carryOut(number);
            if (code < 0) {
                history.dropDraft(now);
                return code == REFUSED ? reasons.refuseBefore(COMMAND_REFUSED, number)
                    : reasons.refuse(OTHER_CODE, number);
            }
        }
        history.keepDraft();
        return input.commands;
    }

    /** Promise 13. */
    public int fault() {
        return latestFault;
    }

    /** Promise 14. */
    public int reason(int depth, boolean isDetail) {
        return reasons.tell(depth, isDetail);
    }

    /** Promise 15. */
    public int blockOf(int block, int what) {
        if (!now.blocks.isThere(block)) {
            return NONE;
        }
        return switch (what) {
            case 0 -> now.blocks.weightOf(block);
            case 1 -> orNothing(now.blocks.holderOf(block));
            case 2 -> now.blocks.depthOf(block);
            case 3 -> now.blocks.hangingAtOnce(block);
            case 4 -> now.blocks.hangingInAll(block);
            case 5 -> now.blocks.sizeOfHang(block);
            case 6 -> now.sledges.countAt(block);
            default -> BAD;
        };
    }

    /** Promise 16. */
    public int treeOf(int block, int what) {
        if (!now.blocks.isThere(block)) {
            return NONE;
        }
        return switch (what) {
            case 0 -> orNothing(now.trees.leftOf(block));
            case 1 -> orNothing(now.trees.rightOf(block));
            case 2 -> orNothing(now.trees.upperOf(block));
            case 3 -> orNothing(now.trees.headOf(block));
            case 4 -> now.trees.countAbove(block);
            case 5 -> now.trees.countBelow(block);
            case 6 -> now.weightBelow(block);
            default -> BAD;
        };
    }

    /** Promise 17. */
    public int ropeOf(int block, int place) {
        return now.blocks.isThere(block) ? now.trees.blockAt(block, place) : NONE;
    }

    /** Promise 18. */
    public int placeOf(int block) {
        return now.blocks.isThere(block) ? now.trees.countAhead(block) : NONE;
    }

    /** Promise 19. */
    public int ropes() {
        return now.countRopes();
    }

    /** Promise 20. */
    public int ropesAbove(int block) {
        return now.blocks.isThere(block) ? now.countRopesUp(block) : NONE;
    }

    /** Promise 21. */
    public int turnsFor(int block) {
        if (!now.blocks.isThere(block)) {
            return NONE;
        }
        trial.takeOver(now);
        trial.expose(block);
        return trial.trees.turns - now.trees.turns;
    }

    /** Promise 22. */
    public int sum(int block) {
        return now.blocks.isThere(block) ? now.sumByRopes(block) : NONE;
    }

    /** Promise 23. */
    public int sumAgain(int block) {
        return now.blocks.isThere(block) ? now.blocks.sumByHolders(block) : NONE;
    }

    /** Promise 24. */
    public int root(int block) {
        return now.blocks.isThere(block) ? now.rootByTops(block) : NONE;
    }

    /** Promise 25. */
    public int rootAgain(int block) {
        return now.blocks.isThere(block) ? now.blocks.rootByHolders(block) : NONE;
    }

    /** Promise 26. */
    public int joint(int one, int other) {
        boolean areThere = now.blocks.isThere(one) && now.blocks.isThere(other);
        return areThere ? now.jointByRopes(one, other) : NONE;
    }

    /** Promise 27. */
    public int jointAgain(int one, int other) {
        boolean areThere = now.blocks.isThere(one) && now.blocks.isThere(other);
        return areThere ? now.blocks.jointByHolders(one, other) : NONE;
    }

    /** Promise 28. */
    public int sledgeOf(int sledge, int what) {
        return now.sledges.tell(sledge, what);
    }

    /** Promise 29. */
    public int ranked(int place) {
        return now.blocks.blockOfRank(place);
    }

    /** Promise 30. */
    public int tellTree(int block) {
        if (!now.blocks.isThere(block)) {
            return NONE;
        }
        line.makeEmpty();
        writeTree(line, now.trees, now.trees.headOf(block), 0);
        return line.length;
    }

    /** Promise 31. */
    public int tellRopes() {
        line.makeEmpty();
        for (int block = 0; block < now.blocks.count; block++) {
            if (now.trees.topOf(block) == block) {
                if (line.length > 0) {
                    line.addSign(' ');
                }
                writeRope(block);
            }
        }
        return line.length;
    }

    /** Promise 32. */
    public int written(int index) {
        return line.codeAt(index);
    }

    /** Promise 33. */
    public int isWell() {
        return now.doWaysAgree() && now.areRopesWell() ? 1 : 0;
    }

    /** Promise 34. */
    public float meanDepth() {
        int count = now.blocks.count;
        return count <= 0 ? 0.0f : (float) now.blocks.sumOfDepths() / (float) count;
    }

    /** Promise 35. */
    public double rootShare() {
        int count = now.blocks.count;
        return count <= 0 ? 0.0 : (double) now.blocks.countRoots() / (double) count;
    }

    /** Promise 36. */
    public int account(int what) {
        return switch (what) {
            case 0 -> now.blocks.count;
            case 1 -> now.blocks.countRoots();
            case 2 -> now.countRopes();
            case 3 -> now.blocks.sumOfWeights();
            case 4 -> now.exposings;
            case 5 -> now.trees.turns;
            case 6 -> now.hangings;
            case 7 -> now.cuttings;
            case 8 -> now.sledges.countUnderway();
            case 9 -> now.sledges.countArrived();
            case 10 -> now.sledges.arrivedLoads();
            case 11 -> input.length;
            case 12 -> history.count;
            default -> BAD;
        };
    }

    /** Promise 37. */
    public int undo() {
        return history.takeBack(now) ? history.count : NOTHING;
    }

    /** Promise 38. */
    public int save() {
        kept.takeOver(now);
        isKept = true;
        return now.blocks.count;
    }

    /** Promise 39. */
    public int restore() {
        if (!isKept) {
            return NOTHING;
        }
        now.takeOver(kept);
        history.forget();
        return now.blocks.count;
    }

    /** A change that succeeded can be undone; an error has changed nothing. */
    private int settled(int code) {
        if (code >= 0) {
            history.keepDraft();
        }
        return code;
    }

    private int carryOut(int number) {
        Word word = input.wordOf(number);
        if (word == null) {
            return NONE;
        }
        int first = at(input.firsts, number);
        int second = at(input.seconds, number);
        return switch (word) {
            case BLOCK -> now.addBlock(first, reasons);
            case HANG -> now.hangOn(first, second, reasons);
            case CUT -> now.cutOff(first, reasons);
            case WALK -> now.walkTo(first);
            case UP -> now.goUp(first);
            case WEIGH -> now.changeWeight(first, second, reasons);
            case SLEDGE -> now.setSledge(first, reasons);
            case PULL -> now.pullSledges(reasons);
            default -> NONE;
        };
    }

    private static void writeTree(Line line, Trees trees, int block, int depth) {
        if (block < 0 || depth >= BLOCKS) {
            return;
        }
        line.addSign('(');
        writeTree(line, trees, trees.leftOf(block), depth + 1);
        line.addNumber(block);
        writeTree(line, trees, trees.rightOf(block), depth + 1);
        line.addSign(')');
    }

    private void writeRope(int top) {
        line.addNumber(top);
        int next = now.trees.behind(top);
        for (int steps = 0; steps < BLOCKS && next >= 0; steps++) {
            line.addSign('-');
            line.addNumber(next);
            next = now.trees.behind(next);
        }
    }

    private static int orNothing(int block) {
        return block < 0 ? NOTHING : block;
    }

    /** Links may lead to NONE, so every row answers for any index. */
    private static int at(int[] row, int index) {
        return row != null && index >= 0 && index < row.length ? row[index] : NONE;
    }

    private static void put(int[] row, int index, int value) {
        if (row != null && index >= 0 && index < row.length) {
            row[index] = value;
        }
    }

    private static void fill(int[] row, int value) {
        for (int index = 0; row != null && index < row.length; index++) {
            row[index] = value;
        }
    }

    private static void copyRow(int[] from, int[] to) {
        for (int index = 0; to != null && index < to.length; index++) {
            to[index] = at(from, index);
        }
    }

    private static int lastAlong(int[] links, int from) {
        int last = from;
        for (int steps = 0; steps < BLOCKS && at(links, last) >= 0; steps++) {
            last = at(links, last);
        }
        return last;
    }

    private static int stepsAlong(int[] links, int from) {
        int steps = 0;
        int next = at(links, from);
        while (steps < BLOCKS && next >= 0) {
            steps++;
            next = at(links, next);
        }
        return steps;
    }

    private static boolean isAlong(int[] links, int from, int sought) {
        int here = from;
        for (int steps = 0; steps < BLOCKS && here >= 0; steps++) {
            if (here == sought) {
                return true;
            }
            here = at(links, here);
        }
        return false;
    }

    /** The words that begin commands; none of them begins another. */
    private enum Word {
        BLOCK("block ", 1),
        HANG("hang ", 2),
        CUT("cut ", 1),
        WALK("walk ", 1),
        UP("up ", 1),
        WEIGH("weigh ", 2),
        SLEDGE("sledge ", 1),
        PULL("pull", 0);

        private final String text;
        private final int numbers;

        Word(String text, int numbers) {
            this.text = text;
            this.numbers = numbers;
        }
    }

    /** The characters of the input, and the commands of the text that was taken apart last. */
    private static final class Input {
        private final int[] signs = new int[MOST_SIGNS];
        // A command has a sign at least, so there are no more commands than signs.
        private final Word[] words = new Word[MOST_SIGNS];
        private final int[] firsts = new int[MOST_SIGNS];
        private final int[] seconds = new int[MOST_SIGNS];
        private int length;
        private int commands;
        private int place;

        int add(char sign) {
            if (sign < FIRST_CODE || sign > LAST_CODE || length >= MOST_SIGNS) {
                return BAD;
            }
            put(signs, length, sign);
            length++;
            return length;
        }

        void makeEmpty() {
            length = 0;
        }

        Word wordOf(int number) {
            return number >= 0 && number < commands && number < words.length ? words[number] : null;
        }

        /** Returns whether the input is a text; if not, the place is that of its fault. */
        boolean takeApart() {
            place = 0;
            commands = 0;
            for (int taken = 0; taken < MOST_SIGNS; taken++) {
                if (!takeCommand()) {
                    return false;
                }
                if (place >= length) {
                    return true;
                }
                if (!takeSign(';')) {
                    return false;
                }
            }
            return false;
        }

        private boolean takeCommand() {
            Word word = takeWord();
            if (word == null) {
                return false;
            }
            int first = 0;
            int second = 0;
            if (word.numbers > 0) {
                first = takeNumber();
            }
            if (first >= 0 && word.numbers > 1) {
                second = takeSign(' ') ? takeNumber() : NONE;
            }
            if (first < 0 || second < 0) {
                return false;
            }
            addCommand(word, first, second);
            return true;
        }

        private void addCommand(Word word, int first, int second) {
            if (commands >= 0 && commands < words.length) {
                words[commands] = word;
                put(firsts, commands, first);
                put(seconds, commands, second);
                commands++;
            }
        }

        /** Without a whole word the place goes behind the letters that could begin one. */
        private Word takeWord() {
            int most = 0;
            for (Word word : WORDS) {
                int letters = sameLetters(word.text);
                if (letters == word.text.length()) {
                    place += letters;
                    return word;
                }
                most = Math.max(most, letters);
            }
            place += most;
            return null;
        }

        private int sameLetters(String text) {
            int letters = 0;
            while (letters < text.length() && codeAt(place + letters) == text.charAt(letters)) {
                letters++;
            }
            return letters;
        }

        private int takeNumber() {
            int number = takeDigit();
            if (number < 0) {
                return NONE;
            }
            int digit = takeDigit();
            return digit < 0 ? number : number * 10 + digit;
        }

        private int takeDigit() {
            int code = codeAt(place);
            if (code < '0' || code > '9') {
                return NONE;
            }
            place++;
            return code - '0';
        }

        private boolean takeSign(char sign) {
            if (codeAt(place) != sign) {
                return false;
            }
            place++;
            return true;
        }

        private int codeAt(int index) {
            return index < length ? at(signs, index) : NONE;
        }
    }

    /** The written line. */
    private static final class Line {
        private final int[] signs = new int[MOST_LINE];
        private int length;

        void makeEmpty() {
            length = 0;
        }

        void addSign(char sign) {
            if (length < MOST_LINE) {
                put(signs, length, sign);
                length++;
            }
        }

        void addNumber(int number) {
            if (number >= 10) {
                addSign((char) ('0' + number / 10));
            }
            addSign((char) ('0' + number % 10));
        }

        int codeAt(int index) {
            return index < length ? at(signs, index) : NONE;
        }
    }

    /** Why something was refused last; a reason of 0 stands for none. */
    private static final class Reasons {
        private int first;
        private int firstDetail;
        private int behind;
        private int behindDetail;

        int refuse(int why, int detail) {
            first = why;
            firstDetail = detail;
            behind = 0;
            behindDetail = 0;
            return REFUSED;
        }

        /** The reason so far stands behind the new one then. */
        int refuseBefore(int why, int detail) {
            behind = first;
            behindDetail = firstDetail;
            first = why;
            firstDetail = detail;
            return REFUSED;
        }

        int tell(int depth, boolean isDetail) {
            if (depth < 0 || depth > 1) {
                return BAD;
            }
            int why = depth == 0 ? first : behind;
            if (why == 0) {
                return NOTHING;
            }
            int detail = depth == 0 ? firstDetail : behindDetail;
            return isDetail ? detail : why;
        }
    }

    /** The quarry as it was before each of the latest changes. */
    private static final class History {
        // One more than can be undone: a draft must not cost the oldest one if its change fails.
        private static final int SLOTS = MOST_UNDOS + 1;

        private final Quarry[] slots = new Quarry[SLOTS];
        private int next;
        private int count;

        History() {
            for (int index = 0; index < slots.length; index++) {
                slots[index] = new Quarry();
            }
        }

        void forget() {
            count = 0;
        }

        void draft(Quarry quarry) {
            Quarry slot = slotOfDraft();
            if (slot != null) {
                slot.takeOver(quarry);
            }
        }

        void dropDraft(Quarry quarry) {
            Quarry slot = slotOfDraft();
            if (quarry != null && slot != null) {
                quarry.takeOver(slot);
            }
        }

        void keepDraft() {
            next = next + 1 < SLOTS ? next + 1 : 0;
            count = Math.min(count + 1, MOST_UNDOS);
        }

        boolean takeBack(Quarry quarry) {
            if (count <= 0) {
                return false;
            }
            count--;
            next = next > 0 ? next - 1 : SLOTS - 1;
            dropDraft(quarry);
            return true;
        }

        private Quarry slotOfDraft() {
            return next >= 0 && next < slots.length ? slots[next] : null;
        }
    }

    /** The blocks with their weights and holders, and what is told holder by holder. */
    private static final class Blocks {
        private final int[] weights = new int[BLOCKS];
        private final int[] holders = new int[BLOCKS];
        private int count;

        void makeEmpty() {
            count = 0;
            fill(weights, 0);
            fill(holders, NONE);
        }

        void takeOver(Blocks other) {
            copyRow(other.weights, weights);
            copyRow(other.holders, holders);
            count = other.count;
        }

        int add(int weight) {
            int block = count;
            put(weights, block, weight);
            put(holders, block, NONE);
            count++;
            return block;
        }

        boolean isThere(int block) {
            return block >= 0 && block < count;
        }

        int weightOf(int block) {
            return at(weights, block);
        }

        int holderOf(int block) {
            return at(holders, block);
        }

        int depthOf(int block) {
            return stepsAlong(holders, block);
        }

        int rootByHolders(int block) {
            return lastAlong(holders, block);
        }

        int sumByHolders(int block) {
            int total = 0;
            int here = block;
            for (int steps = 0; steps < BLOCKS && here >= 0; steps++) {
                total += weightOf(here);
                here = holderOf(here);
            }
            return total;
        }

        int jointByHolders(int one, int other) {
            int here = one;
            for (int steps = 0; steps < BLOCKS && here >= 0; steps++) {
                if (isAlong(holders, other, here)) {
                    return here;
                }
                here = holderOf(here);
            }
            return NOTHING;
        }

        int hangingAtOnce(int block) {
            int found = 0;
            for (int other = 0; other < count; other++) {
                found += holderOf(other) == block ? 1 : 0;
            }
            return found;
        }

        int hangingInAll(int block) {
            int found = 0;
            for (int other = 0; other < count; other++) {
                found += other != block && isAlong(holders, other, block) ? 1 : 0;
            }
            return found;
        }

        int sizeOfHang(int block) {
            return hangingInAll(rootByHolders(block)) + 1;
        }

        int countRoots() {
            return hangingAtOnce(NONE);
        }

        int sumOfDepths() {
            int total = 0;
            for (int block = 0; block < count; block++) {
                total += depthOf(block);
            }
            return total;
        }

        int sumOfWeights() {
            int total = 0;
            for (int block = 0; block < count; block++) {
                total += weightOf(block);
            }
            return total;
        }

        int blockOfRank(int rank) {
            for (int block = 0; block < count; block++) {
                if (rankOf(block) == rank) {
                    return block;
                }
            }
            return NONE;
        }

        private int rankOf(int block) {
            int before = 0;
            for (int other = 0; other < count; other++) {
                before += isBefore(other, block) ? 1 : 0;
            }
            return before;
        }

        private boolean isBefore(int one, int other) {
            if (weightOf(one) != weightOf(other)) {
                return weightOf(one) > weightOf(other);
            }
            int depth = depthOf(one);
            int otherDepth = depthOf(other);
            return depth != otherDepth ? depth < otherDepth : one < other;
        }
    }

    /** The trees of the ropes; a rope is a tree from its leftmost block to its rightmost one. */
    private static final class Trees {
        private final int[] lefts = new int[BLOCKS];
        private final int[] rights = new int[BLOCKS];
        private final int[] uppers = new int[BLOCKS];
        private int turns;

        void makeEmpty() {
            turns = 0;
            fill(lefts, NONE);
            fill(rights, NONE);
            fill(uppers, NONE);
        }

        void takeOver(Trees other) {
            copyRow(other.lefts, lefts);
            copyRow(other.rights, rights);
            copyRow(other.uppers, uppers);
            turns = other.turns;
        }

        int leftOf(int block) {
            return at(lefts, block);
        }

        int rightOf(int block) {
            return at(rights, block);
        }

        int upperOf(int block) {
            return at(uppers, block);
        }

        int headOf(int block) {
            return lastAlong(uppers, block);
        }

        int topOf(int block) {
            return lastAlong(lefts, headOf(block));
        }

        int ahead(int block) {
            return neighbour(lefts, rights, block);
        }

        int behind(int block) {
            return neighbour(rights, lefts, block);
        }

        private int neighbour(int[] near, int[] far, int block) {
            int below = at(near, block);
            if (below >= 0) {
                return lastAlong(far, below);
            }
            int here = block;
            int above = upperOf(here);
            for (int steps = 0; steps < BLOCKS && above >= 0 && at(near, above) == here; steps++) {
                here = above;
                above = upperOf(here);
            }
            return above;
        }

        int countAbove(int block) {
            return stepsAlong(uppers, block);
        }

        boolean isAtOrBelow(int low, int high) {
            return isAlong(uppers, low, high);
        }

        int countBelow(int block) {
            int found = 0;
            for (int other = 0; other < BLOCKS; other++) {
                found += isAtOrBelow(other, block) ? 1 : 0;
            }
            return found;
        }

        int countAhead(int block) {
            int found = 0;
            int here = ahead(block);
            while (found < BLOCKS && here >= 0) {
                found++;
                here = ahead(here);
            }
            return found;
        }

        int blockAt(int block, int place) {
            if (place < 0 || place >= BLOCKS) {
                return NONE;
            }
            int here = topOf(block);
            for (int steps = 0; steps < place && here >= 0; steps++) {
                here = behind(here);
            }
            return here;
        }

        void turn(int block) {
            int above = upperOf(block);
            if (above < 0) {
                return;
            }
            int over = upperOf(above);
            boolean isLeft = leftOf(above) == block;
            int[] near = isLeft ? lefts : rights;
            int[] far = isLeft ? rights : lefts;
            link(near, above, at(far, block));
            link(far, block, above);
            link(leftOf(over) == above ? lefts : rights, over, block);
            turns++;
        }

        /** Either of both may be NONE: what is put at NONE is dropped. */
        private void link(int[] side, int high, int low) {
            put(side, high, low);
            put(uppers, low, high);
        }

        void splay(int block) {
            for (int steps = 0; steps < BLOCKS && upperOf(block) >= 0; steps++) {
                int above = upperOf(block);
                int over = upperOf(above);
                if (over >= 0) {
                    boolean areAlike = (leftOf(above) == block) == (leftOf(over) == above);
                    turn(areAlike ? above : block);
                }
                turn(block);
            }
        }

        void takeLeftOff(int block) {
            put(uppers, leftOf(block), NONE);
            put(lefts, block, NONE);
        }

        void takeRightOff(int block) {
            put(uppers, rightOf(block), NONE);
            put(rights, block, NONE);
        }

        void joinRight(int block, int head) {
            link(rights, block, head);
        }
    }

    /** The sledges that were set, those that arrived among them. */
    private static final class Sledges {
        private final int[] places = new int[SLEDGES];
        private final int[] loads = new int[SLEDGES];
        private final int[] pulls = new int[SLEDGES];
        private final int[] arrivals = new int[SLEDGES];
        private int count;

        void makeEmpty() {
            count = 0;
            fill(places, NONE);
            fill(loads, 0);
            fill(pulls, 0);
            fill(arrivals, 0);
        }

        void takeOver(Sledges other) {
            copyRow(other.places, places);
            copyRow(other.loads, loads);
            copyRow(other.pulls, pulls);
            copyRow(other.arrivals, arrivals);
            count = other.count;
        }

        int add(int block, int load) {
            int sledge = count;
            put(places, sledge, block);
            put(loads, sledge, load);
            put(pulls, sledge, 0);
            put(arrivals, sledge, 0);
            count++;
            return sledge;
        }

        boolean isUnderway(int sledge) {
            return sledge >= 0 && sledge < count && at(arrivals, sledge) == 0;
        }

        int placeAt(int sledge) {
            return at(places, sledge);
        }

        /** Without a holder to go to, the sledge arrives where it is. */
        void drag(int sledge, int holder) {
            put(pulls, sledge, at(pulls, sledge) + 1);
            if (holder >= 0) {
                put(places, sledge, holder);
            } else {
                put(arrivals, sledge, 1);
            }
        }

        int countUnderway() {
            return count - countArrived();
        }

        int countArrived() {
            int found = 0;
            for (int sledge = 0; sledge < count; sledge++) {
                found += at(arrivals, sledge);
            }
            return found;
        }

        int arrivedLoads() {
            int total = 0;
            for (int sledge = 0; sledge < count; sledge++) {
                total += at(arrivals, sledge) == 1 ? at(loads, sledge) : 0;
            }
            return total;
        }

        int countAt(int block) {
            int found = 0;
            for (int sledge = 0; sledge < count; sledge++) {
                found += isUnderway(sledge) && placeAt(sledge) == block ? 1 : 0;
            }
            return found;
        }

        int tell(int sledge, int what) {
            if (sledge < 0 || sledge >= count) {
                return NONE;
            }
            return switch (what) {
                case 0 -> at(places, sledge);
                case 1 -> at(loads, sledge);
                case 2 -> at(pulls, sledge);
                case 3 -> at(arrivals, sledge);
                default -> BAD;
            };
        }
    }

    /** All that changes can change. */
    private static final class Quarry {
        private final Blocks blocks = new Blocks();
        private final Trees trees = new Trees();
        private final Sledges sledges = new Sledges();
        private int exposings;
        private int hangings;
        private int cuttings;

        Quarry() {
            makeEmpty();
        }

        void makeEmpty() {
            blocks.makeEmpty();
            trees.makeEmpty();
            sledges.makeEmpty();
            exposings = 0;
            hangings = 0;
            cuttings = 0;
        }

        void takeOver(Quarry other) {
            if (other == null) {
                return;
            }
            blocks.takeOver(other.blocks);
            trees.takeOver(other.trees);
            sledges.takeOver(other.sledges);
            exposings = other.exposings;
            hangings = other.hangings;
            cuttings = other.cuttings;
        }

        int addBlock(int weight, Reasons reasons) {
            if (!isWeight(weight)) {
                return BAD;
            }
            if (blocks.count >= BLOCKS) {
                return reasons.refuse(FULL, BLOCKS);
            }
            return blocks.add(weight);
        }

        int hangOn(int root, int block, Reasons reasons) {
            if (!blocks.isThere(root) || !blocks.isThere(block)) {
                return NONE;
            }
            if (blocks.holderOf(root) >= 0) {
                return reasons.refuse(NO_ROOT, blocks.holderOf(root));
            }
            if (blocks.rootByHolders(block) == root) {
                return reasons.refuse(ONE_HANG, root);
            }
            expose(root);
            expose(block);
            put(blocks.holders, root, block);
            hangings++;
            return blocks.depthOf(root);
        }

        int cutOff(int block, Reasons reasons) {
            if (!blocks.isThere(block)) {
                return NONE;
            }
            int holder = blocks.holderOf(block);
            if (holder < 0) {
                return reasons.refuse(IS_ROOT, block);
            }
            expose(block);
            trees.takeLeftOff(block);
            put(blocks.holders, block, NONE);
            cuttings++;
            return holder;
        }

        int walkTo(int block) {
            if (!blocks.isThere(block)) {
                return NONE;
            }
            expose(block);
            return blocks.sumByHolders(block);
        }

        int goUp(int block) {
            if (!blocks.isThere(block)) {
                return NONE;
            }
            expose(block);
            int root = blocks.rootByHolders(block);
            trees.splay(root);
            return root;
        }

        int changeWeight(int block, int weight, Reasons reasons) {
            if (!blocks.isThere(block)) {
                return NONE;
            }
            if (!isWeight(weight)) {
                return BAD;
            }
            int before = blocks.weightOf(block);
            if (before == weight) {
                return reasons.refuse(SO_ALREADY, weight);
            }
            put(blocks.weights, block, weight);
            return before;
        }

        int setSledge(int block, Reasons reasons) {
            if (!blocks.isThere(block)) {
                return NONE;
            }
            if (sledges.count >= SLEDGES) {
                return reasons.refuse(FULL, SLEDGES);
            }
            return sledges.add(block, blocks.weightOf(block));
        }

        int pullSledges(Reasons reasons) {
            if (sledges.countUnderway() == 0) {
                return reasons.refuse(NO_SLEDGE, sledges.countArrived());
            }
            int before = sledges.countArrived();
            for (int sledge = 0; sledge < SLEDGES; sledge++) {
                if (sledges.isUnderway(sledge)) {
                    int block = sledges.placeAt(sledge);
                    expose(block);
                    sledges.drag(sledge, blocks.holderOf(block));
                }
            }
            return sledges.countArrived() - before;
        }

        void expose(int block) {
            exposings++;
            trees.splay(block);
            trees.takeRightOff(block);
            int head = block;
            int holder = blocks.holderOf(trees.topOf(head));
            for (int steps = 0; steps < BLOCKS && holder >= 0; steps++) {
                trees.splay(holder);
                trees.takeRightOff(holder);
                trees.joinRight(holder, head);
                head = holder;
                holder = blocks.holderOf(trees.topOf(head));
            }
            trees.splay(block);
        }

        int countRopes() {
            int found = 0;
            for (int block = 0; block < blocks.count; block++) {
                found += trees.upperOf(block) < 0 ? 1 : 0;
            }
            return found;
        }

        int countRopesUp(int block) {
            int found = 0;
            int here = block;
            while (found < BLOCKS && here >= 0) {
                found++;
                here = blocks.holderOf(trees.topOf(here));
            }
            return found;
        }

        int sumByRopes(int block) {
            int total = 0;
            int here = block;
            for (int steps = 0; steps < BLOCKS && here >= 0; steps++) {
                total += weightDownTo(here);
                here = blocks.holderOf(trees.topOf(here));
            }
            return total;
        }

        /** The weights of a rope from its top down to a block: its own, and what is left of it. */
        private int weightDownTo(int block) {
            int total = blocks.weightOf(block) + weightBelow(trees.leftOf(block));
            int here = block;
            int above = trees.upperOf(here);
            for (int steps = 0; steps < BLOCKS && above >= 0; steps++) {
                if (trees.rightOf(above) == here) {
                    total += blocks.weightOf(above) + weightBelow(trees.leftOf(above));
                }
                here = above;
                above = trees.upperOf(here);
            }
            return total;
        }

        int weightBelow(int block) {
            int total = 0;
            for (int other = 0; other < blocks.count; other++) {
                total += trees.isAtOrBelow(other, block) ? blocks.weightOf(other) : 0;
            }
            return total;
        }

        int rootByTops(int block) {
            int top = trees.topOf(block);
            for (int steps = 0; steps < BLOCKS && blocks.holderOf(top) >= 0; steps++) {
                top = trees.topOf(blocks.holderOf(top));
            }
            return top;
        }

        int jointByRopes(int one, int other) {
            int here = one;
            int there = other;
            // Each step leaves a rope for good, so there are fewer steps than ropes.
            for (int steps = 0; steps < BLOCKS && here >= 0 && there >= 0; steps++) {
                int top = trees.topOf(here);
                int otherTop = trees.topOf(there);
                if (top == otherTop) {
                    return trees.countAhead(here) <= trees.countAhead(there) ? here : there;
                }
                if (blocks.depthOf(top) >= blocks.depthOf(otherTop)) {
                    here = blocks.holderOf(top);
                } else {
                    there = blocks.holderOf(otherTop);
                }
            }
            return NOTHING;
        }

        boolean doWaysAgree() {
            for (int block = 0; block < blocks.count; block++) {
                if (sumByRopes(block) != blocks.sumByHolders(block)
                    || rootByTops(block) != blocks.rootByHolders(block)) {
                    return false;
                }
                for (int other = 0; other < blocks.count; other++) {
                    if (jointByRopes(block, other) != blocks.jointByHolders(block, other)) {
                        return false;
                    }
                }
            }
            return true;
        }

        boolean areRopesWell() {
            for (int block = 0; block < blocks.count; block++) {
                int ahead = trees.ahead(block);
                if (ahead >= 0 && blocks.holderOf(block) != ahead) {
                    return false;
                }
                if (timesOnRopes(block) != 1) {
                    return false;
                }
            }
            return true;
        }

        private int timesOnRopes(int block) {
            int times = 0;
            for (int top = 0; top < blocks.count; top++) {
                int here = trees.topOf(top) == top ? top : NONE;
                for (int steps = 0; steps < BLOCKS && here >= 0; steps++) {
                    times += here == block ? 1 : 0;
                    here = trees.behind(here);
                }
            }
            return times;
        }

        private static boolean isWeight(int weight) {
            return weight >= 0 && weight <= MOST_WEIGHT;
        }
    }
}
