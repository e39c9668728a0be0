import com.sun.management.ThreadMXBean;
import java.lang.management.ManagementFactory;

/** All calls of one run live in one room: what an object and its 512 calls make must stay small. */
public final class RoomTests {
    private static final String DEAR = "while a#9{draw b 10;a=a+b;b=0;}";

    public static void main(String[] args) {
        askAll();
        long before = made();
        askAll();
        long bytes = made() - before;
        System.out.println(bytes + " bytes made by an object and its calls");
        // some 60,000 numbers of four bytes, where the room has 7.3 million
        Check.due("the room is kept", bytes < 400000 ? 1 : 0, 1);
        long first = made();
        OddsSolver x = new OddsSolver();
        long alone = made() - first;
        System.out.println(alone + " bytes made by an object alone");
        Check.due("an object alone", alone < 100000 && x.told(0) == 0 ? 1 : 0, 1);
        Check.close();
    }

    private static long made() {
        return ((ThreadMXBean) ManagementFactory.getThreadMXBean()).getThreadAllocatedBytes(Thread.currentThread().getId());
    }

    private static void askAll() {
        OddsSolver x = new OddsSolver();
        long sum = 0;
        for (int round = 0; round < 30; round++) {
            Check.tell(x, DEAR);
            x.first(0, round % 8);
            sum += x.told(1) + x.total(0, 1) + x.value(0, 9, 2) + x.both(0, 9, 1, 0, 1) + x.mean(0, 1);
            sum += x.independent(0, 1) + x.visits(0, 1) + x.steps(1) + x.within(200, 1) + x.classes(0);
            sum += x.classOf(1, 3) + x.run(0) + x.worth() + x.print() + x.undo();
        }
        Check.due("something was answered", sum == 0 ? 1 : 0, 0);
    }
}
