import com.sun.management.ThreadMXBean;
import java.lang.management.ManagementFactory;

/** A run of 512 of the dearest calls makes few objects: all calls of a run live in one room. */
public final class BudgetTest {
    private static final ThreadMXBean ROOM = (ThreadMXBean) ManagementFactory.getThreadMXBean();

    private BudgetTest() {
    }

    public static void main(String[] args) {
        run(5);
        run(4);
        // 65,536 places for ways, twice over, would be some 500,000 bytes; 7.3 million places are far more
        long before = ROOM.getCurrentThreadAllocatedBytes();
        run(5);
        run(4);
        long made = ROOM.getCurrentThreadAllocatedBytes() - before;
        Inn.due("bytes that two runs make, " + made, made < 2_000_000, true);
        before = ROOM.getCurrentThreadAllocatedBytes();
        for (int i = 0; i < 100; i++) {
            new PinInn();
        }
        made = (ROOM.getCurrentThreadAllocatedBytes() - before) / 100;
        Inn.due("bytes of a new object, " + made, made < 20_000, true);
        Inn.close("BudgetTest");
    }

    private static void run(int guests) {
        StringBuilder text = new StringBuilder("bound 99999");
        for (int r = 0; r < 8; r++) {
            text.append(";room ").append(r % 3).append(' ').append(r / 3).append(" 4");
        }
        for (int g = 0; g < guests; g++) {
            text.append(";guest ").append(10 + g).append(" in ").append(g);
        }
        PinInn inn = new PinInn();
        Inn.house(inn, text.toString());
        for (int g = 0; g < guests; g++) {
            Inn.wishes(inn, g, "want x + y > far + heads and not alone;want with 1 or stove;want snow > 5;want room > 7");
        }
        inn.read(100, 100);
        for (int i = 0; i < 45; i++) {
            inn.seats(i % 3);
            inn.bells(PinInn.NONE, i - 1);
            inn.stove(i % 8);
            inn.wake(true);
            inn.fits(0);
            inn.meeting(0, 0, 1);
            inn.day(i % 4);
            inn.unnoticed(true);
            inn.image();
            inn.back();
            inn.night(3);
        }
    }
}
