import java.lang.management.ManagementFactory;

/** How much room calls take: no call that answers makes anything, the constructor little. */
public final class RoomTest {
    private static final Check check = new Check("RoomTest");
    private static final com.sun.management.ThreadMXBean BEAN =
            (com.sun.management.ThreadMXBean) ManagementFactory.getThreadMXBean();
    private static final String COLLEGE = "fellow 40 40 40 40 40 40 40;".repeat(6) + "glass 9 0;".repeat(8) + "wall 99;";

    public static void main(String[] args) {
        PartedFellows warm = Check.with(COLLEGE);
        dear(warm);
        long ahead = used();
        PartedFellows x = new PartedFellows();
        long made = used() - ahead;
        check.same("a new object takes less than 200,000 bytes (" + made + ")", 1, made < 200000 ? 1 : 0);
        Check.college(x, COLLEGE);
        ahead = used();
        dear(x);
        made = used() - ahead;
        check.same("the dearest calls make nothing (" + made + ")", 1, made < 20000 ? 1 : 0);
        check.end();
    }

    private static long used() {
        return BEAN.getThreadAllocatedBytes(Thread.currentThread().getId());
    }

    private static void dear(PartedFellows x) {
        for (int i = 0; i < 12; i++) {
            x.span(i, 10, 16, 48, 0, 0);
            x.term(i, 16, 48, 0);
            x.look(0);
            x.fits(0);
            x.bow(0);
            x.through(0, 0, 98);
            x.blurs(0);
            x.lit();
            x.power(0, 0, 100, 0);
            x.light(0, 63, 700);
            x.feed(0x64617920, 0x3b202020, 0x20202020, 0x20202020, 0x20202020);
            x.work(20);
            x.feed(0x28282828, 0x28287061, 0x72742929, 0x29292929, 0x2b626e64);
            x.law(14);
            x.image();
            x.restore();
            x.undo();
        }
    }
}
