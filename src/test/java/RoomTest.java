import com.sun.management.ThreadMXBean;
import java.lang.management.ManagementFactory;

/** All calls of a run live in one room: an object is made small, and its calls make nothing. */
public final class RoomTest {
    private static final ThreadMXBean THREADS = (ThreadMXBean) ManagementFactory.getThreadMXBean();

    public static void main(String[] args) {
        long self = Thread.currentThread().getId();
        callAll(new TermIdeals());
        long start = THREADS.getThreadAllocatedBytes(self);
        TermIdeals x = new TermIdeals();
        long made = THREADS.getThreadAllocatedBytes(self);
        for (int i = 0; i < 20; i++) {
            callAll(x);
        }
        long called = THREADS.getThreadAllocatedBytes(self);
        atMost("bytes of a new object", made - start, 20_000);
        atMost("bytes made by calls", called - made, 1_000);
        Due.end("RoomTest");
    }

    private static void atMost(String what, long got, long most) {
        System.out.println(what + ": " + got);
        Due.is(what + " " + got + " are at most " + most, got <= most ? 1 : 0, 1);
    }

    private static void callAll(TermIdeals x) {
        for (int i = 0; i < 6; i++) {
            x.generate(0, i, 9 - i);
            x.generate(1, 9 - i, i);
        }
        x.drop(0, 1);
        x.merge(1);
        x.close(0);
        x.feed('c');
        x.feed('0');
        x.read();
        x.of(0, 0, 2);
        for (int what = 0; what <= 4; what++) {
            x.told(0, what);
            x.count(what);
        }
        x.in(0, 1, 1, 1);
        x.face(0, 1, 2);
        x.held(0, 1, 1, 5, 6);
        x.reason(0, 0, 0, 99, 1, 1);
        x.jump(0, 1, 1, 0);
        x.jumps(0, 30, 0);
        x.lacks(0, 5, 6);
        x.height(0, 16, 30);
        x.reduces(0);
        x.reduces(1);
        x.see(0, 5, 6);
        x.fits(0, 0, 0, 0);
        x.odds(0, 5, 6, 0);
        x.mean(0, 0);
        x.event(2, 1);
        x.after(1);
        x.after(2);
        x.book(11, 1);
        x.looked();
        x.tape(0, 0, 60);
        x.item(0, 0, 3L);
        x.judge(0, 0, 0);
        x.shift(0, 0, 0, 1, 50);
        x.peek(0, 1);
        x.image();
        x.clear(0);
        x.back();
        x.undo();
    }
}
