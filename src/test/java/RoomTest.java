import com.sun.management.ThreadMXBean;
import java.lang.management.ManagementFactory;

/** All calls share one room: no call makes objects or arrays, and a new wheel is small. */
public final class RoomTest {
    private static final ThreadMXBean threads = (ThreadMXBean) ManagementFactory.getThreadMXBean();
    private static final Check check = new Check("RoomTest");

    public static void main(String[] args) {
        RoseWheel x = Check.told("c1;c2;c3;c0;c4;c5;c1;c2;p0 1;p3 2;p6 3;p1 5;");
        callAll(x);
        long before = used();
        for (int n = 0; n < 200; n++) {
            callAll(x);
        }
        long bytes = used() - before;
        check.isTrue("200 times all calls made " + bytes + " bytes", bytes < 2000);
        before = used();
        RoseWheel y = new RoseWheel();
        bytes = used() - before;
        check.isTrue("a new wheel has " + bytes + " bytes", bytes < 16000 && y.count(0) == 0);
        check.end();
    }

    private static long used() {
        return threads.getThreadAllocatedBytes(Thread.currentThread().getId());
    }

    private static void callAll(RoseWheel x) {
        x.keep(0);
        x.spins(9);
        x.goes(0, 5);
        x.passes(3);
        x.covers(1);
        x.covers(0);
        x.forgives(0, 1);
        x.undo();
        for (int what = 0; what < 8; what++) {
            x.now(what);
            x.count(what);
            x.one(1, what);
            x.mark(what, 1);
            x.spun(what);
            x.laws(what);
        }
        x.pane(0);
        x.owed(0, 1);
        x.saw(0, 1);
        x.hears(9, 20);
        x.look();
        x.tryNext();
        x.forget();
        x.clicks(9);
        x.stops(9);
        x.shade(0, 9);
        x.speeds(0, 1, 0);
        x.steps(0, 1, 9, 0);
        x.chair(1, 0);
        x.seats(9, 0);
        x.odds(0, 1, 9, 1, 0);
        x.trace();
        x.back(0);
        x.clear();
        x.type('c');
        x.rose();
    }
}
