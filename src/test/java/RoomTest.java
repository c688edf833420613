import java.lang.management.ManagementFactory;

/**
 * All calls of one run live in one room: 600,000 objects, 7,300,000 fields and elements. An object
 * takes 16 bytes or more and an element one or more, so a run that makes fewer than 4,000,000 bytes
 * keeps far within both.
 */
public final class RoomTest {
    private static final long MOST = 4_000_000;
    private static final int CALLS = 512;

    public static void main(String[] args) {
        for (int warm = 0; warm < 2; warm++) {
            dearest(false);
            dearest(true);
        }
        long thread = Thread.currentThread().getId();
        com.sun.management.ThreadMXBean bean =
                (com.sun.management.ThreadMXBean) ManagementFactory.getThreadMXBean();
        for (boolean many : new boolean[] {false, true}) {
            long before = bean.getThreadAllocatedBytes(thread);
            dearest(many);
            long made = bean.getThreadAllocatedBytes(thread) - before;
            System.out.println("RoomTest: " + made + " bytes");
            Due.due("a run within the room", made < MOST, true);
        }
        Due.finish("RoomTest");
    }

    /** Six pages of 40 unlike tokens, the deepest fields, marks far behind, then ACTS and questions. */
    private static void dearest(boolean many) {
        FieldCutter x = Due.read("field a;field b of a;field c of b;field d" + (many ? " many;" : ";"));
        int calls = 10;
        for (int p = 0; p < 6; p++) {
            StringBuilder s = new StringBuilder("page");
            for (int i = 0; i < 40; i++) {
                int k = p * 40 + i;
                s.append(i % 3 == 2 ? " " + (1000 + k) : " w" + (char) ('a' + k / 26) + (char) ('a' + k % 26));
            }
            Due.tell(x, s.append(" end;").toString());
            x.page();
            calls += 20;
        }
        Due.due("unlike tokens", x.about(2), 240);
        for (int p = 0; p < 6; p++) {
            x.mark(p, 0, 0, 40);
            x.mark(p, 1, 0, 40);
            x.mark(p, 2, 37 - p % 3, 38);
            x.mark(p, 3, 37 - p % 3, 38);
            calls += 4;
        }
        for (int k = 0; calls < CALLS; k++) {
            int f = k % 4;
            x.learn(f);
            x.stale(f);
            x.could(f, 1);
            x.enough(f);
            x.next(f);
            x.unmark(k % 6, f);
            x.take(k % 6, f);
            x.opinion(k % 6, f, 1);
            x.sturdy(k % 6, f);
            x.strange(0);
            x.image(k % 2);
            x.undo();
            calls += 12;
        }
    }
}
