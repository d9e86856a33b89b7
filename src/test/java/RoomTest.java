import com.sun.management.ThreadMXBean;
import java.lang.management.ManagementFactory;

/**
 * All calls of a run live in one room, so an object makes its rows when it is made, and no call makes
 * more than the exception that it throws.
 */
public final class RoomTest {
    private static final Check check = new Check("room");
    private static final ThreadMXBean BEAN = (ThreadMXBean) ManagementFactory.getThreadMXBean();
    private static final long THREAD = Thread.currentThread().getId();
    /** The room has some 7.3 million fields and elements; a run's object must need far less. */
    private static final long MOST_BYTES = 64 * 1024;

    public static void main(String[] args) {
        // The first times, the machine itself may make something: classes and the like.
        long ofNew = bytesOfNew();
        long ofCalls = bytesOfDearestCalls();
        for (int again = 0; again < 5; again++) {
            ofNew = Math.min(ofNew, bytesOfNew());
            ofCalls = Math.min(ofCalls, bytesOfDearestCalls());
        }
        check.due("bytes of a new object, " + ofNew + ", are few", ofNew <= MOST_BYTES ? 1 : 0, 1);
        check.due("bytes of some 500 calls", ofCalls, 0);
        check.end();
    }

    private static long bytesOfNew() {
        long before = BEAN.getThreadAllocatedBytes(THREAD);
        FormulaVoice f = new FormulaVoice();
        long behind = BEAN.getThreadAllocatedBytes(THREAD);
        return behind - before + f.count(0);
    }

    private static long bytesOfDearestCalls() {
        FormulaVoice f = new FormulaVoice();
        int[] words = {25, 0, 20, 25, 0, 20, 25, 0, 20, 25, 0, 20, 25, 0, 20, 25, 0, 20, 25, 0};
        int[] fives = new int[4];
        for (int i = 0; i < words.length; i++) {
            fives[i / 5] = fives[i / 5] * 32 + words[i];
        }
        long before = BEAN.getThreadAllocatedBytes(THREAD);
        long sum = 0;
        for (int round = 0; round < 17; round++) {
            sum += f.hush();
            for (int five : fives) {
                sum += f.hear(5, five);
            }
            long last = f.readings(8) - 1;
            int n = f.write(8, last);
            sum += f.place(8, Math.max(n, 0)) + f.doubt(8, 0, last) + f.fewest(Math.max(n, 0)) + f.clear(1, 4);
            sum += f.listen(1, 0) + f.words(0, 0) + f.word(0, 0, 0) + f.sound(1, 0, 1) + f.times(1, 0) + f.alike(0, 1);
            sum += f.changed(0, 1) + f.exchanged(0, 1) + f.walk(1) + f.go(0) + f.lead(0) + f.glance(0, 9);
            sum += f.keep(0, 3, 0) + f.keep(1, 4, 1) + f.make(2, 4, 60) + f.copy(1, 0, 2, 0, 1) + f.element(2, 0);
            sum += f.fewest(1);
        }
        long behind = BEAN.getThreadAllocatedBytes(THREAD);
        check.due("the calls were made", sum == Long.MIN_VALUE ? 1 : 0, 0);
        return behind - before;
    }
}
