import java.lang.management.ManagementFactory;

/** All room is made in the constructor, and little of it: the calls make nothing. */
public final class RoomTest {
    private static final int OBJECTS = 200;
    private static final long BYTES_OF_AN_OBJECT = 200_000;
    private static final long BYTES_OF_ITS_CALLS = 2_000;

    public static void main(String[] args) {
        Check check = new Check("room");
        com.sun.management.ThreadMXBean bean = (com.sun.management.ThreadMXBean) ManagementFactory.getThreadMXBean();
        long self = Thread.currentThread().getId();
        LateIndex[] made = new LateIndex[OBJECTS];
        calls(new LateIndex());
        long start = bean.getThreadAllocatedBytes(self);
        for (int k = 0; k < OBJECTS; k++) {
            made[k] = new LateIndex();
        }
        long built = bean.getThreadAllocatedBytes(self);
        int answers = 0;
        for (int k = 0; k < OBJECTS; k++) {
            answers += calls(made[k]);
        }
        long called = bean.getThreadAllocatedBytes(self);
        System.out.println("room: " + (built - start) / OBJECTS + " bytes an object, " + (called - built) / OBJECTS
            + " bytes by its calls");
        check.due("an object is small", 1, (built - start) / OBJECTS < BYTES_OF_AN_OBJECT ? 1 : 0);
        check.due("its calls make nothing", 1, (called - built) / OBJECTS < BYTES_OF_ITS_CALLS ? 1 : 0);
        check.due("its calls are the same each time", 0, answers % OBJECTS);
        check.close();
    }

    /** Some 500 calls, every one of the face among them. */
    private static int calls(LateIndex x) {
        int sum = 0;
        for (int k = 0; k < 14; k++) {
            sum += x.begin(k % 4) + x.put(k % 4, k, k, k, k) + x.erase(k % 4, k + 1) + x.see(k % 4, k, 1);
            sum += x.commit(k % 4) + x.why() + x.begin(2) + x.roll(2) + x.sweep();
            sum += x.feed(0x696e6465, 0x78206120, 0x756e6971, 0x75652020, 0x20202020) + x.build(k % 2, 20) + x.fault(0);
            sum += x.work(k % 2, 20) + x.takeUp(0) + x.terms(0, k) + x.index(0, 1) + x.entry(0, 0, 0);
            sum += x.logged(0, 1, 0, 0) + x.ahead(0, k, k, k) + x.same(0, k, k, k) + x.reads(0, k) + x.by(0);
            sum += x.feed(0x66696e64, 0x20613c39, 0x206f7264, 0x65722062, 0x20202020) + x.query(20) + x.find(-1);
            sum += x.found(-1, 0) + x.plan(1) + x.far(0) + x.alike(0, -1, 0) + x.units(0, 1) + x.free();
            sum += x.undo(1) + x.image(k % 2) + x.restore(k % 2) + x.count(3) + (k == 13 ? x.giveUp(0) : 0);
        }
        return sum;
    }
}
