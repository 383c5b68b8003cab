import com.sun.management.ThreadMXBean;
import java.lang.management.ManagementFactory;

/** An object makes its rows once: calls behind the constructor take no room. */
public final class RoomTest {
    private static final int MOST_BYTES_TO_MAKE = 16384, MOST_BYTES_TO_CALL = 1024;
    private static final String EIGHT = "river 0 9 1;bridge 0 9 1 unless 0;river 0 9 1 unless 1;bridge 0 9 1 0;"
            + "ferry 0 9 1 2;river 0 9 1 unless 3;bridge 0 9 1 unless 4;river 0 9 1 5 unless 6;plan 0;plan 2;plan 4;";

    public static void main(String[] args) {
        Check check = new Check("RoomTest");
        ThreadMXBean bean = (ThreadMXBean) ManagementFactory.getThreadMXBean();
        long id = Thread.currentThread().getId();
        use(new RiverSuit());
        bean.getThreadAllocatedBytes(id);
        long before = bean.getThreadAllocatedBytes(id);
        RiverSuit x = new RiverSuit();
        long made = bean.getThreadAllocatedBytes(id);
        use(x);
        long used = bean.getThreadAllocatedBytes(id);
        check.isTrue(made - before + " bytes to make one", made - before <= MOST_BYTES_TO_MAKE);
        check.isTrue(used - made + " bytes for its calls", used - made <= MOST_BYTES_TO_CALL);
        check.close();
    }

    private static void use(RiverSuit x) {
        for (int i = 0; i < EIGHT.length(); i++) {
            x.feed(EIGHT.charAt(i));
        }
        x.text();
        x.sheet(0, 2, 40);
        for (int i = 0; i < 8; i++) {
            x.see(i, false);
            x.keep(i);
            x.game(i % 2);
            x.days();
            x.share(i, 0);
            x.luck(i, 0);
            x.fits(i);
            x.drift(i, 60, 0);
            x.ever(i % 2);
            x.chain(i);
            x.few(0);
            x.foil(1);
            x.trial(i);
            x.sheet(1, i, 40);
            x.lay(1, i, i);
            x.read(1, i, 0, 20);
            x.back(i);
        }
    }
}
