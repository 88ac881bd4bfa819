import com.sun.management.ThreadMXBean;
import java.lang.management.ManagementFactory;

/** What calls make: nothing but laws' texts, so that a long run stays far below the room it has. */
public final class RoomTest {
    private static final Checks C = new Checks("RoomTest");
    private static final ThreadMXBean THREADS = (ThreadMXBean) ManagementFactory.getThreadMXBean();

    private RoomTest() {
    }

    public static void main(String[] args) {
        // The first round is for what the machine itself makes when it meets code for the first time.
        for (int round = 0; round < 2; round++) {
            boolean counts = round == 1;
            long before = made();
            TrainBearers x = new TrainBearers();
            within(counts, "a new object", made() - before, 40_000);
            fill(x);
            before = made();
            for (int i = 0; i < 100; i++) {
                askAll(x, i);
            }
            within(counts, "calls that make no law", made() - before, 1_000);
            before = made();
            for (int i = 0; i < 100; i++) {
                x.feed(0x6c696674, 0x73206769, 0x726c2a32, 0x202b2073, 0x74726f6e);
                x.feed(0x67206966, 0x20312f5b, 0x315d3d31, 0x20206f72, 0x20313d31);
                x.law();
                x.back(0);
            }
            within(counts, "a hundred laws", made() - before, 100_000);
        }
        C.finish();
    }

    private static long made() {
        return THREADS.getThreadAllocatedBytes(Thread.currentThread().getId());
    }

    private static void within(boolean counts, String what, long bytes, long most) {
        if (counts) {
            C.dueTrue(what + ": " + bytes + " bytes", bytes <= most);
        }
    }

    private static void fill(TrainBearers x) {
        for (int i = 0; i < 8; i++) {
            x.yard(9 + i);
            x.girl(i);
        }
        for (int a = 0; a < 6; a++) {
            for (int b = a + 1; b < 6; b++) {
                x.lane(a, b, a + b);
            }
        }
        for (int g = 0; g < 8; g++) {
            x.hold(g, g / 2);
        }
        Checks.law(x, "lifts strong+3-tired;tires stiles;brings dip*2 if yard<4;bars if girl=7 and yard=1");
        x.force(0);
        x.image(0);
    }

    private static void askAll(TrainBearers x, int i) {
        x.seen(0, 40);
        x.borne(i % 10);
        x.exchanged(0);
        x.letGo();
        x.look(1);
        x.way(5, i % 5);
        x.brought(5);
        x.folds(40, 3);
        x.resting(5);
        x.far();
        x.steady();
        x.compare(-1);
        x.generations(i, 60);
        x.drawn(3, 1);
        // rest times 9;walk 1 if 1=2
        x.feed(0x72657374, 0x2074696d, 0x65732039, 0x3b77616c, 0x6b203120);
        x.feed(0x69662031, 0x3d322020, 0x20202020, 0x20202020, 0x20202020);
        x.orders();
        x.undo();
        x.back(0);
    }
}
