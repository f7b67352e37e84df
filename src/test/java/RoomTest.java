import java.lang.management.ManagementFactory;

/** One object's calls live in one room: the constructor makes what is needed, calls make nothing. */
public final class RoomTest {
    public static void main(String[] args) {
        com.sun.management.ThreadMXBean bean = (com.sun.management.ThreadMXBean) ManagementFactory.getThreadMXBean();
        long made = 0;
        long called = 0;
        // The first rounds load classes; the last one is looked at.
        for (int round = 0; round < 3; round++) {
            long start = bean.getCurrentThreadAllocatedBytes();
            OneWayTown x = new OneWayTown();
            made = bean.getCurrentThreadAllocatedBytes() - start;
            Check.tape(x, text());
            start = bean.getCurrentThreadAllocatedBytes();
            calls(x);
            called = bean.getCurrentThreadAllocatedBytes() - start;
        }
        Check.due("bytes of a new object are below 200,000", made < 200000, true);
        Check.due("bytes of calls: " + called, called < 2000, true);
        Check.finish("RoomTest");
    }

    private static String text() {
        StringBuilder text = new StringBuilder("house a;");
        for (char name = 'b'; name <= 'n'; name++) {
            text.append("house ").append(name).append(" at ").append((char) ('a' + (name - 'b') / 2)).append(" street 5;");
        }
        return text.append("cart a at a to n;cart b at n to a;cart c at g to h;cart d at h to g;").toString();
    }

    private static void calls(OneWayTown x) {
        x.town();
        for (int i = 0; i < 10; i++) {
            x.feed(i, i, i, i, i);
            x.end(0);
            x.way(i, 13 - i);
            x.middle(i % 3);
            x.farthest(2);
            x.move(13, i);
            x.live(i, i);
            x.years(50);
            x.undo();
            x.redo();
            x.image(0);
            x.wardens(i);
            x.quiet();
            x.guards();
            x.news(i);
            x.tidings(i);
            x.wells(1 + i % 4);
            x.shops(1 + i % 4);
            x.counted(i % 4);
            x.quarters(i);
            x.bestNews();
            x.carts(0);
            x.alike(0, true);
            x.selves(true);
            x.unlike(14);
            x.marks();
            x.grown(14, 0x1234567L);
            x.tried(i % 3, 6);
            x.joined(1 + i, 0);
            x.distance(i % 6, (i + 1) % 6, 5 + i);
            x.wrong(6, 0);
            x.mended(3, 0, 0);
            x.back(0);
        }
    }
}
