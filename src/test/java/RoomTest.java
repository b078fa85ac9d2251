import java.lang.management.ManagementFactory;

/** All calls of one run live in one room: calls but the constructor and station make nothing. */
public final class RoomTest {
    private static final Due DUE = new Due();
    /** So many that all calls of an object together are somewhat less than 512. */
    private static final int ROUNDS = 27;
    /** What the measuring itself makes is less than this; one object a call would be more. */
    private static final int SLACK = 4096;

    public static void main(String[] args) {
        run(new int[1]);
        int[] sum = new int[1];
        StationLine x = stations();
        long before = allocated();
        calls(x, sum);
        long made = allocated() - before;
        DUE.is("bytes made by " + ROUNDS + " rounds of calls: " + made + ", few", made < SLACK, true);
        DUE.end();
    }

    private static long allocated() {
        com.sun.management.ThreadMXBean bean =
                (com.sun.management.ThreadMXBean) ManagementFactory.getThreadMXBean();
        return bean.getThreadAllocatedBytes(Thread.currentThread().getId());
    }

    private static void run(int[] sum) {
        allocated();
        calls(stations(), sum);
    }

    private static StationLine stations() {
        StationLine x = new StationLine();
        for (int s = 0; s < 6; s++) {
            x.station(2, 2);
        }
        return x;
    }

    private static void calls(StationLine x, int[] sum) {
        x.scan();
        x.setup();
        for (int i = 0; i < ROUNDS; i++) {
            sum[0] += x.request(1 << i % 4) + x.cycle() + x.ask(i % 6, 2, 3, 0);
            x.tick();
            sum[0] += x.answer(i % 6) + x.input(i % 24) + x.actuator(i % 6, 0) + x.state(i % 6);
            x.output(i % 24, i);
            x.sense(i % 6, 1, i);
            sum[0] += x.datagram(1 + i % 2, 0, 64, 8) + x.datagram(4 + i % 2, 1, 40, 8) + x.datagram(12, 0, 0, 8);
            x.data(0, 0, i);
            sum[0] += x.send() + x.returned(0, -1) + (i % 8 == 7 ? x.scan() + x.setup() : 0);
            x.spoil(i % 7);
            x.cut(i % 6, i % 3 == 0);
        }
    }
}
