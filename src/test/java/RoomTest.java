import com.sun.management.ThreadMXBean;
import java.lang.management.ManagementFactory;

/** An object makes its rows once: no call makes anything, and the dearest ones end soon. */
public final class RoomTest {
    private static final ThreadMXBean THREADS = (ThreadMXBean) ManagementFactory.getThreadMXBean();

    private static long made() {
        return THREADS.getThreadAllocatedBytes(Thread.currentThread().getId());
    }

    public static void main(String[] args) {
        Check check = new Check();
        // Once ahead, so that what the machine makes for itself at first is not counted.
        calls(check, new MissingLamps());
        long before = made();
        MissingLamps lamps = new MissingLamps();
        long one = made() - before;
        check.due("an object has under 64 KiB: " + one, one < 65536, true);
        // An object for each call would be more by far than what the machine may make for its own ends.
        check.due("calls make nothing", calls(check, lamps) < 1024, true);
        check.end();
    }

    /** How many bytes the calls make. */
    private static long calls(Check check, MissingLamps lamps) {
        Tape.text(lamps, dearText());
        long start = System.nanoTime();
        long before = made();
        int statements = lamps.quay();
        askAll(lamps);
        long made = made() - before;
        long seconds = (System.nanoTime() - start) / 1_000_000_000L;
        check.due("quay", statements, 29);
        check.due("the dearest calls end within 20 s: " + seconds, seconds < 20, true);
        return made;
    }

    /** Nine things that are not missing, six folk who never come home, and long rules. */
    private static String dearText() {
        StringBuilder text = new StringBuilder("quay 7 by 7;pace 1;gale 50;");
        for (char c = 'a'; c < 'j'; c++) {
            text.append("lack ").append(c).append(" at ").append((c - 'a') % 7).append(" 3 hue 1 high 0;has ").append(c).append(';');
        }
        for (char c = 'm'; c < 's'; c++) {
            text.append("folk ").append(c).append(" at ").append(c - 'm').append(" 0 home 6 6;");
        }
        text.append("glows 0*(1").append("*hue/2%7+age".repeat(20)).append(");finds near>9");
        text.append(" or age>9 and hue>9".repeat(12)).append(";");
        return text.toString();
    }

    private static void askAll(MissingLamps lamps) {
        for (int k = 0; k < 6; k++) {
            lamps.losses(k, 20);
            lamps.home(k);
            lamps.later(k, 40, 0);
            lamps.odds(k);
            lamps.send(k);
        }
        lamps.worst(20, 0);
        lamps.cover();
        for (int t = 0; t < 9; t++) {
            lamps.lose(t);
            lamps.thing(t, 6);
            lamps.hues(t);
            lamps.tells(t, 0);
            lamps.missing(t, 40);
        }
        lamps.worst(20, 0);
        lamps.cover();
        lamps.send(0);
        for (int k = 0; k < 25; k++) {
            lamps.nights(10);
            lamps.chance(10);
            lamps.kept(0, 0);
        }
        lamps.undo();
        lamps.image();
        lamps.octet(0);
        lamps.has(7);
        lamps.cell(0, 0, 2);
    }
}
