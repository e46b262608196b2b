import java.lang.management.ManagementFactory;

/** Runs of 512 dear calls: what they make stays far within the room that a run has. */
public final class RoomTest {
    private static final int CALLS = 512;
    /** The room is 7.3 million fields and elements; none of them takes less than two bytes in the arrays used. */
    private static final long MOST_BYTES = 6_000_000L;
    private static final long MOST_BYTES_OF_A_NEW_ONE = 60_000L;
    private static final String SCALES = "a=1 or a=3;a>1;b=1 or b=3;b>1;c=1 or c=3;c>1;d=1 or d=3;d>1;e=1 or e=3;e>1;f=1 or f=3;f>1;";

    private static final com.sun.management.ThreadMXBean THREADS =
        (com.sun.management.ThreadMXBean) ManagementFactory.getThreadMXBean();

    private static MarkCabinet x;
    private static int seed = 1;
    private static int calls = 0;
    private static int wrong = 0;

    public static void main(String[] args) {
        made();
        for (int kind = 0; kind < 9; kind++) {
            long before = made();
            begin();
            while (calls < CALLS) {
                change();
                ask(kind == 8 ? calls / 2 % 8 : kind);
            }
            long bytes = made() - before;
            System.out.println("run " + kind + ": " + bytes + " bytes");
            limit("run " + kind, bytes, MOST_BYTES);
        }
        long before = made();
        new MarkCabinet();
        limit("a new object", made() - before, MOST_BYTES_OF_A_NEW_ONE);
        if (wrong != 0) {
            System.exit(1);
        }
    }

    private static long made() {
        return THREADS.getThreadAllocatedBytes(Thread.currentThread().getId());
    }

    private static void limit(String what, long bytes, long most) {
        if (bytes > most) {
            wrong++;
            System.out.println(what + " made " + bytes + " bytes, at most " + most + " are due");
        }
    }

    private static int next(int below) {
        seed = seed * 1103515245 + 12345;
        return (seed >>> 8) % below;
    }

    private static void begin() {
        calls = 0;
        x = new MarkCabinet();
        for (int f = 0; f < 16; f++) {
            x.find();
            calls++;
            for (int m = 0; m < 6; m++) {
                x.tell(0, f, m, next(4), 0);
                calls++;
            }
        }
        scales();
    }

    private static void scales() {
        x.end(0);
        for (int p = 0; p < SCALES.length(); p += 20) {
            x.feed(word(p), word(p + 4), word(p + 8), word(p + 12), word(p + 16));
            calls++;
        }
        x.scales();
        calls += 2;
    }

    private static int word(int from) {
        int w = 0;
        for (int i = 0; i < 4; i++) {
            w = w << 8 | (from + i < SCALES.length() ? SCALES.charAt(from + i) : ' ');
        }
        return w;
    }

    private static void change() {
        x.tell(0, next(16), next(6), next(4), 0);
        x.view(0, 999 - (calls & 1));
        calls += 2;
    }

    private static void ask(int kind) {
        calls++;
        switch (kind) {
            case 0:
                x.concepts(calls & 1);
                break;
            case 1:
                x.rules(calls & 1);
                break;
            case 2:
                x.follow(calls & 1, next(4096), 0);
                break;
            case 3:
                x.explore(0);
                x.question(0);
                x.yes();
                calls += 2;
                break;
            case 4:
                x.rows(0, 65535 >> next(16), next(4096));
                x.place(0, 65535, 1 << next(12), next(1000000), 15);
                calls++;
                break;
            case 5:
                x.crosses(0, 255 << next(9), 4095, 0);
                break;
            case 6:
                x.cost(next(12), 1 + next(9));
                x.path(65535, next(16), 0);
                calls++;
                break;
            default:
                scales();
                x.changed(2, 0, 999, 0);
                x.quarrel(999, 0, 0);
                calls++;
                break;
        }
    }
}
