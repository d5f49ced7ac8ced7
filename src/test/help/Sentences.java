import java.io.IOException;
import java.nio.file.Files;
import java.nio.file.Path;
import java.util.LinkedHashMap;
import java.util.Map;

/**
 * What the edge tests share. Each test quotes the sentence that it is for, says() looks it up in the document, and
 * finish() fails where a sentence has been quoted by no test.
 */
abstract class Sentences {
    static final int[] FAR = {Integer.MIN_VALUE, -1000, -5, -4, -3, -2, -1, 16, 17, 60, 1000, Integer.MAX_VALUE};

    private static final Path DOCUMENT = Path.of("../shared/DOC.md");
    private static final Map<String, StringBuilder> SECTIONS = new LinkedHashMap<>();

    private static String quoted = "";
    private static int sentences = 0;
    private static int asked = 0;
    private static int wrong = 0;

    interface Call {
        int on(QuarryRopes x);
    }

    /** Begins the test of a sentence: the section's heading, or the first part of it, and the sentence as it stands. */
    static void says(String heading, String sentence) {
        if (sentences == 0) {
            readDocument();
        }
        sentences++;
        quoted = heading + " " + sentence.trim();
        for (Map.Entry<String, StringBuilder> section : SECTIONS.entrySet()) {
            if (section.getKey().startsWith(heading) && strikeOut(section.getValue(), sentence)) {
                return;
            }
        }
        if (!SECTIONS.isEmpty()) {
            report("is not in the document, or was quoted before");
        }
    }

    static void due(String call, double got, double want) {
        asked++;
        if (got != want) {
            report(call + " answered " + got + ", due is " + want);
        }
    }

    static void dueLine(QuarryRopes x, String call, int length, String want) {
        due(call, length, want.length());
        dueText(call + " wrote", line(x), want);
    }

    static void dueTree(QuarryRopes x, int block, String want) {
        dueLine(x, "tellTree(" + block + ")", x.tellTree(block), want);
    }

    static void dueRopes(QuarryRopes x, String want) {
        dueLine(x, "tellRopes()", x.tellRopes(), want);
    }

    static void dueReason(QuarryRopes x, int reason, int detail) {
        due("reason(0, false)", x.reason(0, false), reason);
        due("reason(0, true)", x.reason(0, true), detail);
    }

    static void dueReasonBehind(QuarryRopes x, int reason, int detail) {
        due("reason(1, false)", x.reason(1, false), reason);
        due("reason(1, true)", x.reason(1, true), detail);
    }

    /** A refusal with its reason and detail, and nothing behind it. */
    static void dueRefusal(QuarryRopes x, String call, int got, int reason, int detail) {
        due(call, got, QuarryRopes.REFUSED);
        dueReason(x, reason, detail);
        dueReasonBehind(x, QuarryRopes.NOTHING, QuarryRopes.NOTHING);
    }

    static void dueAccounts(QuarryRopes x, int... want) {
        for (int what = 0; what < want.length; what++) {
            due("account(" + what + ")", x.account(what), want[what]);
        }
    }

    /** Two objects answer every question alike, and what can be undone and restored in them is alike. */
    static void dueAlike(String call, QuarryRopes x, QuarryRopes twin) {
        dueText("after " + call + " all told is", told(x), told(twin));
    }

    static String line(QuarryRopes x) {
        StringBuilder text = new StringBuilder();
        for (int index = 0; x.written(index) != QuarryRopes.NONE; index++) {
            text.append((char) x.written(index));
        }
        return text.toString();
    }

    static void type(QuarryRopes x, String text) {
        for (int index = 0; index < text.length(); index++) {
            x.append(text.charAt(index));
        }
    }

    static int read(QuarryRopes x, String text) {
        type(x, text);
        return x.read();
    }

    static QuarryRopes blocks(int... weights) {
        QuarryRopes x = new QuarryRopes();
        for (int weight : weights) {
            x.block(weight);
        }
        return x;
    }

    /** 16 blocks, each of its number as its weight. */
    static QuarryRopes full() {
        return blocks(0, 1, 2, 3, 4, 5, 6, 7, 8, 9, 10, 11, 12, 13, 14, 15);
    }

    /** 16 blocks, each hung on the one before from the last one on, so that each is a rope alone. */
    static QuarryRopes deepest() {
        QuarryRopes x = full();
        for (int block = 15; block > 0; block--) {
            x.hang(block, block - 1);
        }
        return x;
    }

    /** 16 blocks, each hung on the one behind it by number, so that 15 is the root; each is a rope alone. */
    static QuarryRopes backwards() {
        QuarryRopes x = full();
        for (int block = 0; block < 15; block++) {
            x.hang(block, block + 1);
        }
        return x;
    }

    /** Blocks 0 to 3, each hung on the one before: ropes (((0)1)2) and (3), after 6 exposings and 2 turns. */
    static QuarryRopes chain() {
        QuarryRopes x = blocks(5, 7, 9, 11);
        x.hang(1, 0);
        x.hang(2, 1);
        x.hang(3, 2);
        return x;
    }

    /** The chain gone up from its end: one rope (0((1(2))3)), after 7 exposings and 6 turns. */
    static QuarryRopes risen() {
        QuarryRopes x = chain();
        x.up(3);
        return x;
    }

    static void finish(String name, String headings) {
        for (Map.Entry<String, StringBuilder> section : SECTIONS.entrySet()) {
            String left = section.getValue().toString().replaceAll("[^A-Za-z0-9]+", " ").trim();
            if (section.getKey().startsWith(headings) && !left.isEmpty()) {
                quoted = section.getKey();
                report("no test quotes: " + left);
            }
        }
        System.out.println(name + ": " + asked + " answers for " + sentences + " sentences, " + wrong + " faults");
        if (wrong != 0) {
            System.exit(1);
        }
    }

    private static void dueText(String what, String got, String want) {
        asked++;
        if (!got.equals(want)) {
            report(what + " " + got + ", due is " + want);
        }
    }

    private static void report(String fault) {
        wrong++;
        System.out.println(quoted + " | " + fault);
    }

    private static boolean strikeOut(StringBuilder section, String sentence) {
        int from = section.indexOf(sentence);
        if (from < 0) {
            return false;
        }
        section.replace(from, from + sentence.length(), "|");
        return true;
    }

    /** Headings with their texts on one line each, without the signatures and the names of parameters. */
    private static void readDocument() {
        if (!Files.exists(DOCUMENT)) {
            System.out.println("There is no " + DOCUMENT + " to look the sentences up in.");
            return;
        }
        StringBuilder section = new StringBuilder();
        for (String line : documentLines()) {
            if (line.startsWith("## ")) {
                section = new StringBuilder();
                SECTIONS.put(line.substring(3), section);
            } else {
                String text = line.replaceFirst("^- `\\w+`: ", "").replaceFirst("^`[^`]*\\)`: ", "").trim();
                section.append(section.length() == 0 || text.isEmpty() ? "" : " ").append(text);
            }
        }
    }

    private static Iterable<String> documentLines() {
        try {
            return Files.readAllLines(DOCUMENT);
        } catch (IOException fault) {
            throw new IllegalStateException("the document cannot be read", fault);
        }
    }

    private static String told(QuarryRopes x) {
        StringBuilder all = new StringBuilder(line(x));
        for (int depth = 0; depth < 2; depth++) {
            add(all, x.reason(depth, false));
            add(all, x.reason(depth, true));
        }
        add(all, x.fault());
        for (int what = 0; what <= 12; what++) {
            add(all, x.account(what));
        }
        int count = x.account(0);
        for (int block = 0; block < count; block++) {
            addBlock(all, x, block);
            add(all, x.ranked(block));
            for (int other = 0; other < block; other++) {
                add(all, x.joint(block, other));
                add(all, x.jointAgain(other, block));
            }
        }
        for (int what = 0; what < 12; what++) {
            add(all, x.sledgeOf(what / 4, what % 4));
        }
        all.append(' ').append(x.meanDepth()).append(' ').append(x.rootShare());
        add(all, x.isWell());
        add(all, x.ropes());
        addPast(all, x);
        return all.toString();
    }

    private static void addBlock(StringBuilder all, QuarryRopes x, int block) {
        for (int what = 0; what < 7; what++) {
            add(all, x.blockOf(block, what));
            add(all, x.treeOf(block, what));
        }
        add(all, x.placeOf(block));
        add(all, x.ropeOf(block, 1));
        add(all, x.ropesAbove(block));
        add(all, x.turnsFor(block));
        add(all, x.sum(block));
        add(all, x.sumAgain(block));
        add(all, x.root(block));
        add(all, x.rootAgain(block));
    }

    /** Takes the object apart: what was appended, what can be undone, and what was saved. */
    private static void addPast(StringBuilder all, QuarryRopes x) {
        add(all, x.read());
        add(all, x.fault());
        for (int undone = x.undo(); undone >= 0; undone = x.undo()) {
            addRopes(all, x);
        }
        add(all, x.restore());
        addRopes(all, x);
    }

    private static void addRopes(StringBuilder all, QuarryRopes x) {
        x.tellRopes();
        all.append(' ').append(line(x));
        for (int what = 3; what < 10; what++) {
            add(all, x.account(what));
        }
    }

    private static void add(StringBuilder all, int answer) {
        all.append(' ').append(answer);
    }
}
