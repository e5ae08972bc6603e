import com.sun.management.ThreadMXBean;
import java.lang.management.ManagementFactory;

/**
 * How much a run makes. The room of a run is 7.3 million fields and elements, and each takes four
 * bytes or more, so that twelve million bytes are at most three million of them.
 */
public final class RoomTests {
    private static final long MOST_BYTES = 12_000_000;
    private static final int AND = 2;
    private static final int OR = 3;
    private static final int IMPLIES = 4;

    private static final Checks CHECKS = new Checks();
    private static final ThreadMXBean THREADS =
            (ThreadMXBean) ManagementFactory.getThreadMXBean();

    private static int kept = 0;

    public static void main(String[] args) {
        measure("512 new objects", RoomTests::newObjects);
        measure("430 long searches", RoomTests::longSearches);
        measure("a full object", RoomTests::fullObject);
        measure("170 objects that prove", RoomTests::objectsThatProve);
        CHECKS.end();
    }

    private static void measure(String run, Runnable calls) {
        // The first time the machine makes things of its own.
        calls.run();
        long before = THREADS.getCurrentThreadAllocatedBytes();
        calls.run();
        long bytes = THREADS.getCurrentThreadAllocatedBytes() - before;
        System.out.println(run + ": " + bytes + " bytes");
        CHECKS.that(run + " makes " + bytes + " bytes", bytes < MOST_BYTES);
    }

    private static void newObjects() {
        for (int k = 0; k < 512; k++) {
            kept += new ProofSeeker().statements();
        }
    }

    /** Many nested implications, tried in all orders in vain, so that all fuel is used. */
    private static void longSearches() {
        ProofSeeker x = new ProofSeeker();
        int f = x.atom(31);
        for (int i = 0; i < 15; i++) {
            int one = x.join(IMPLIES, x.join(IMPLIES, x.atom(2 * i), x.atom(2 * i + 1)), x.atom(i));
            f = x.join(IMPLIES, one, f);
        }
        for (int k = 0; k < 430; k++) {
            CHECKS.due("a long search", x.prove(f, 3000), ProofSeeker.OUT);
        }
    }

    private static int casesOf(ProofSeeker x, int orders, int z) {
        int swapped = x.join(OR, x.atom(1), x.atom(0));
        for (int i = 1; i < orders; i++) {
            swapped = x.join(AND, swapped, x.join(OR, x.atom(2 * i + 1), x.atom(2 * i)));
        }
        int f = x.join(IMPLIES, x.join(IMPLIES, swapped, x.atom(z)), x.atom(z));
        for (int i = 0; i < orders; i++) {
            f = x.join(IMPLIES, x.join(OR, x.atom(2 * i), x.atom(2 * i + 1)), f);
        }
        return f;
    }

    private static void fullObject() {
        ProofSeeker x = new ProofSeeker();
        for (int z = 12; z < 32 && x.nodes() < 8000; z++) {
            kept += x.prove(casesOf(x, 6, z), 3000);
        }
        CHECKS.due("nodes of a full object", x.nodes(), 8000);
    }

    private static void objectsThatProve() {
        for (int k = 0; k < 170; k++) {
            ProofSeeker x = new ProofSeeker();
            int f = x.join(IMPLIES, x.atom(0), x.join(AND, x.atom(0), x.atom(0)));
            CHECKS.that("a proof", x.prove(f, 3000) > 0);
        }
    }
}
