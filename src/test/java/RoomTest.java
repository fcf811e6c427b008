import com.sun.management.ThreadMXBean;
import java.lang.management.ManagementFactory;

/** All calls of a run live in one room: an object is small, and its calls make nothing more. */
public final class RoomTest {
    private static final ThreadMXBean THREADS = (ThreadMXBean) ManagementFactory.getThreadMXBean();
    private static final int MOST_BYTES_OF_AN_OBJECT = 40_000;
    /** What measuring itself makes; far less than an array for each call of a kind. */
    private static final int MEASURED = 256;

    private static final Check check = new Check();
    private static int answers = 0;

    public static void main(String[] args) {
        check.about("room");
        // The first time classes are loaded, and that makes objects, too.
        everyCall(new ThrowersBag());
        long before = bytes();
        ThrowersBag bag = new ThrowersBag();
        long made = bytes() - before;
        check.is("a new object is small: " + made + " bytes", made <= MOST_BYTES_OF_AN_OBJECT);
        before = bytes();
        everyCall(bag);
        made = bytes() - before;
        check.is("the calls make nothing: " + made + " bytes", made <= MEASURED);
        check.is("the calls did something", answers != 0);
        check.end();
    }

    private static long bytes() {
        return THREADS.getCurrentThreadAllocatedBytes();
    }

    private static void everyCall(ThrowersBag x) {
        sticksAndWinds(x);
        int a = x.fly(0, 45, 0, 120, 800, 0) + x.at(1, 0) + x.ticks() + x.hit();
        a += x.choose(3, 3) + x.chosen(0);
        a += x.keep(0, 0, 45, 0, 100, 800, -1) + x.keep(1, 1, 45, 0, 100, 800, -1) + x.two(1);
        for (int i = 0; i < 5; i++) {
            a += x.match(i, -1);
        }
        a += x.style(45, 0, 100, 800) + x.points(0, -1) + x.best() + x.order(0);
        for (int i = 0; i < 10; i++) {
            a += x.row(0, 45, 0, 100, 800, 0, 0);
        }
        a += x.miss(0, 0) + x.explain(0) + x.sure(0) + x.unrow();
        a += x.seen(0) + x.patch(0, 1, 1) + x.grass(0, 0) + x.next() + x.search(0) + x.count(0);
        for (int i = 0; i < 60; i++) {
            a += x.sheet(0, i % 3, 60) + x.item(0, i % 3, i, i) + x.sheet(1, i % 3, 60) + x.copy(0, 0, 1, 0, 60);
        }
        a += x.rows(0, 2, 0, 1) + x.drop(0);
        answers += a;
    }

    private static void sticksAndWinds(ThrowersBag x) {
        for (int i = 0; i < 5; i++) {
            answers += x.plain(20, 40, 3, 1) + x.winged(15, 50, 4, 0, 30) + x.lift(i, 1, 50) + x.bend(i, 1);
            answers += x.told(i, 0) + x.lose(i, false) + x.wind() + x.blows(i, 0, 10, 90) + x.swing(i, 90);
            answers += x.tree(9000, 9000, 1, 1) + x.ring(500) + x.table(0, 90);
        }
    }
}
