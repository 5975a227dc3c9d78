import com.sun.management.ThreadMXBean;
import java.lang.management.ManagementFactory;

/** A long run of the dearest calls makes little: rows are used again. */
public final class RoomTest {
    // far below 7.3 million elements, even if each were one byte
    private static final long MOST_BYTES = 1_500_000;
    private static final long MOST_BYTES_OF_NEW = 150_000;

    private static long allocated() {
        ThreadMXBean bean = (ThreadMXBean) ManagementFactory.getThreadMXBean();
        return bean.getThreadAllocatedBytes(Thread.currentThread().getId());
    }

    private static void dearCalls(FourWheels x, int i) {
        Told.lay(x, 0, 1, 22, 333, 4444, 5555, 666, 77, 8);
        x.year(i, 30);
        x.order(i);
        x.chance(i, 0);
        x.mean(0);
        x.best(0, 10);
        x.shortest(0, 10);
        x.saw(1);
        x.guarded(0, 500, 0);
        x.danger(500);
        x.hidden();
        x.judge(0, 3);
        x.perform(0);
        x.near(30);
        x.copy(0);
        x.image(i % 2);
        x.restore(i % 2);
        x.undo(1);
        Told.lay(x, 1, 20, 30);
        x.rows(1);
        x.who(1);
    }

    private static void run(FourWheels x) {
        for (int i = 0; i < 16; i++) {
            Told.shed(x, i % 2 == 0 ? "wheel 3;mate;" : "wheel 10;wheel 10;wheel 10;wheel 10;saw 99;clue 7: has 7 = 1;mate 0;mate;set 1 2 3 4;");
            dearCalls(x, i);
        }
    }

    public static void main(String[] args) {
        run(new FourWheels());
        long before = allocated();
        FourWheels x = new FourWheels();
        long made = allocated();
        run(x);
        long after = allocated();
        System.out.println("RoomTest: a new object takes " + (made - before) + " bytes, a run " + (after - made));
        if (made - before > MOST_BYTES_OF_NEW || after - made > MOST_BYTES) {
            System.out.println("that is too much");
            System.exit(1);
        }
    }
}
