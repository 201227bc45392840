import com.sun.management.ThreadMXBean;
import java.lang.management.ManagementFactory;

/** A run lives in one room that nobody sweeps: calls make nothing, an object is made small. */
public final class RoomTest {
    private static final int RUNS = 20, MOST_BYTES_OF_AN_OBJECT = 8000;
    private static final ThreadMXBean ROOM = (ThreadMXBean) ManagementFactory.getThreadMXBean();

    public static void main(String[] args) {
        KinCutlery x = new KinCutlery();
        calls(x);
        long before = ROOM.getThreadAllocatedBytes(Thread.currentThread().getId());
        KinCutlery y = new KinCutlery();
        long made = ROOM.getThreadAllocatedBytes(Thread.currentThread().getId());
        long sum = 0;
        for (int i = 0; i < RUNS; i++) {
            sum += calls(y);
        }
        long after = ROOM.getThreadAllocatedBytes(Thread.currentThread().getId());
        System.out.println("an object: " + (made - before) + " bytes; " + RUNS + " runs of calls: " + (after - made) + " bytes; sum " + sum);
        // what the measuring itself makes
        if (made - before > MOST_BYTES_OF_AN_OBJECT || after - made > 1000) {
            System.exit(1);
        }
    }

    private static long calls(KinCutlery x) {
        long sum = x.feed(0x6874697720726965L << 8 | 'h', 8) + x.feed(0x6f67203320L << 8 | 'h', 6) + x.feast();
        sum += x.feed(0x3b3720646c6f74L, 7) + x.feast();
        for (int g = 0; g < 8; g++) {
            sum += x.guest(g % 6, g) + x.sink(g, 0, 60) + x.of(g, 2) + x.does(g, 0) + x.mind(g, 5) + x.give(g, g);
        }
        sum += x.set(0, 4) + x.lawOf(0) + x.seed(3) + x.course() + x.luck(30) + x.courses(2) + x.keep() + x.again();
        for (int g = 0; g < 8; g++) {
            sum += x.deep(g, 60) + x.speaks(g) + x.sinks(g) + x.pieceFor(g, 40) + x.kindFor(g, 40) + x.goneFor(g, 40);
        }
        sum += x.whole() + x.tale(60) + x.depthFor(40) + x.strangersFor(20, x.state(1) + 30) + x.odds(8, 4, 0) + x.hope(99, 1);
        sum += x.prove(0, 10) + x.row(3, 1) + x.alterRow(3, 1, 5) + x.judge(0) + x.many(3);
        for (int sort = 0; sort < 4; sort++) {
            sum += x.sheet(sort, sort, 40) + x.put(sort, 39, 9) + x.item(sort, sort, 39) + x.fits(sort, 0, 0) + x.minds(sort, 0, 0, 8);
        }
        for (int g = 0; g < 8; g++) {
            sum += x.mind(g, g % 6) + x.shelf(g % 4, 0, g) + x.taken(g % 4, 0);
            sum += x.act(g % 4, 0, 5) + x.act(g % 4, 1, 5) + x.act(g % 4, 2, 5) + x.act(g % 4, 3, 5) + x.trace(0);
        }
        return sum;
    }
}
