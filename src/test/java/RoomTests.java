import com.sun.management.ThreadMXBean;
import java.lang.management.ManagementFactory;

/** A new object takes a small room, and no call takes any: all rows are made in constructors. */
public final class RoomTests {
    private static final ThreadMXBean THREADS = (ThreadMXBean) ManagementFactory.getThreadMXBean();
    private static final long MOST_FOR_OBJECT = 32_000;
    private static final long MOST_FOR_CALLS = 8_000;

    private static long room() {
        return THREADS.getThreadAllocatedBytes(Thread.currentThread().getId());
    }

    private static void type(QuarryRopes x, String text) {
        for (int index = 0; index < text.length(); index++) {
            x.append(text.charAt(index));
        }
    }

    private static void change(QuarryRopes x) {
        x.clear();
        for (int block = 0; block < 16; block++) {
            x.block(block);
        }
        for (int block = 1; block < 16; block++) {
            x.hang(block, block - 1);
        }
        x.sledge(15);
        x.pull();
        x.walk(15);
        x.up(15);
        x.weigh(3, 99);
        x.cut(3);
        x.hang(3, 3);
        type(x, "walk 1;walk 2;walk 3;cut 0");
        x.read();
        type(x, "walk 1;walk 2;hang 3 2;up 9");
        x.read();
        type(x, "walk 1;walk 2;hang 3 2;up 9;u");
        x.read();
        x.save();
        x.restore();
        x.walk(0);
        x.undo();
    }

    private static void ask(QuarryRopes x) {
        for (int what = 0; what < 13; what++) {
            x.account(what);
            x.blockOf(12, what);
            x.treeOf(12, what);
            x.sledgeOf(0, what);
            x.ranked(what);
            x.ropeOf(12, what);
            x.joint(12, what);
            x.jointAgain(12, what);
            x.written(what);
        }
        x.fault();
        x.reason(0, true);
        x.placeOf(9);
        x.ropes();
        x.ropesAbove(15);
        x.turnsFor(15);
        x.sum(15);
        x.sumAgain(15);
        x.root(15);
        x.rootAgain(15);
        x.tellTree(15);
        x.tellRopes();
        x.isWell();
        x.meanDepth();
        x.rootShare();
    }

    public static void main(String[] args) {
        QuarryRopes warm = new QuarryRopes();
        change(warm);
        ask(warm);
        long start = room();
        QuarryRopes x = new QuarryRopes();
        long forObject = room() - start;
        start = room();
        for (int times = 0; times < 20; times++) {
            change(x);
            ask(x);
        }
        long forCalls = room() - start;
        System.out.println("RoomTests: " + forObject + " bytes for an object, " + forCalls + " for some 4000 calls");
        if (forObject > MOST_FOR_OBJECT || forCalls > MOST_FOR_CALLS) {
            System.exit(1);
        }
    }
}
