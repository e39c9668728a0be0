import com.sun.management.ThreadMXBean;
import java.lang.management.ManagementFactory;
import java.nio.charset.StandardCharsets;

/** All calls of one run live in one room: an object makes its rows when it is made, its calls make nothing. */
public final class RoomTests {
    private static final String DEAR = "while a#9{draw b 6;a=a+b;b=0;}flip 20{observe a=9;}else{flip 40{stop;}}";
    private static final int NONE = OddsSolver.NONE;
    private static final ThreadMXBean THREADS = (ThreadMXBean) ManagementFactory.getThreadMXBean();
    private static final long THREAD = Thread.currentThread().getId();

    /** Twenty bytes a row, made ahead of what is measured. */
    private static final int[] FED = numbersOf(DEAR);

    /** The least of some rounds: the machine may load or compile something of its own in one of them. */
    public static void main(String[] args) {
        long alone = Long.MAX_VALUE;
        long byCalls = Long.MAX_VALUE;
        long sum = 0;
        for (int round = 0; round < 6; round++) {
            long before = made();
            OddsSolver x = new OddsSolver();
            long between = made();
            sum += askAll(x);
            long behind = made();
            alone = Math.min(alone, between - before);
            byCalls = Math.min(byCalls, behind - between);
        }
        System.out.println(alone + " bytes made by an object alone, " + byCalls + " by its calls");
        // some 55,000 numbers of four bytes, where the room has 7.3 million
        Check.due("an object alone", alone < 250000 ? 1 : 0, 1);
        Check.due("its calls make nothing", byCalls, 0);
        Check.due("something was answered", sum == 0 ? 1 : 0, 0);
        Check.close();
    }

    private static long made() {
        return THREADS.getThreadAllocatedBytes(THREAD);
    }

    private static int[] numbersOf(String text) {
        byte[] bytes = text.getBytes(StandardCharsets.ISO_8859_1);
        int[] numbers = new int[(bytes.length + 19) / 20 * 5];
        for (int k = 0; k < 4 * numbers.length; k++) {
            numbers[k / 4] = numbers[k / 4] << 8 | (k < bytes.length ? bytes[k] & 255 : ' ');
        }
        return numbers;
    }

    /** Every call of the face that throws nothing; the whole stays within 512 calls. */
    private static long askAll(OddsSolver x) {
        long sum = 0;
        for (int round = 0; round < 12; round++) {
            for (int k = 0; k + 5 <= FED.length; k += 5) {
                sum += x.feed(FED[k], FED[k + 1], FED[k + 2], FED[k + 3], FED[k + 4]);
            }
            sum += x.text(DEAR.length()) + x.fault() + x.first(0, round % 8) + x.chance(4, round) + x.firstOf(0);
            sum += x.told(1) + x.told(5) + x.statement(3, 3) + x.state(0, 9) + x.arc(1, 0, 1) + x.status(1);
            sum += x.total(0, 1) + x.value(0, 9, 2) + x.both(0, 9, 1, 0, 1) + x.mean(0, 1) + x.independent(0, 1);
            sum += x.visits(0, 1) + x.steps(1) + x.within(200, 1) + x.classes(0) + x.classOf(1, 3);
            sum += x.run(NONE) + x.run(0) + x.worth() + x.print() + x.undo() + x.undo() + x.undo();
            // a text with a FAULT, and one more that is empty
            sum += x.feed(FED[0], FED[1], FED[2], FED[3], FED[4]) + x.text(20) + x.fault() + x.text(0) + x.steps(0);
        }
        return sum;
    }
}
