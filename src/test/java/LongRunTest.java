/** "An object is used for at most 512 calls": runs of just so many calls, whose last answers are as due as the first. */
public final class LongRunTest {
    private static final Due DUE = new Due();
    private static final int MOST = 512;

    private final StationLine x = new StationLine();
    private int calls;

    public static void main(String[] args) {
        DUE.sentence("An object is used for at most 512 calls after it has been made");
        new LongRunTest().frames();
        new LongRunTest().cycles();
        new LongRunTest().messages();
        new LongRunTest().ages();
        new LongRunTest().refusedCalls();
        new LongRunTest().scansAndSetUps();
        DUE.end();
    }

    private int left() {
        return MOST - calls;
    }

    private int made(int answer) {
        calls++;
        return answer;
    }

    private int made(boolean answer) {
        calls++;
        return answer ? 1 : 0;
    }

    private void tick() {
        calls++;
        x.tick();
    }

    private void stations(int count, int outputs, int inputs) {
        for (int s = 0; s < count; s++) {
            made(x.station(outputs, inputs));
        }
    }

    private void start(int state) {
        made(x.scan());
        made(x.setup());
        for (int next = 2; next <= state; next *= 2) {
            if (next == 8) {
                made(x.cycle());
            }
            made(x.request(next));
            tick();
        }
    }

    /** A frame with one datagram that writes to the station with ADDRESS 1. */
    private void write(int offset, int... bytes) {
        made(x.datagram(5, 1, offset, bytes.length));
        for (int i = 0; i < bytes.length; i++) {
            made(x.data(0, i, bytes[i]));
        }
        DUE.is("send()", made(x.send()), 1);
    }

    private void isAtTheEnd() {
        DUE.is("calls left", left(), 0);
    }

    private void frames() {
        stations(4, 0, 0);
        for (int round = 0; left() > 0; round++) {
            DUE.is("datagram", made(x.datagram(8, 65535, 100, 1)), 0);
            DUE.is("data", made(x.data(0, 0, round)), 1);
            DUE.is("send()", made(x.send()), 1);
            DUE.is("returned(0, -2)", made(x.returned(0, -2)), 3);
        }
        isAtTheEnd();
    }

    private void cycles() {
        stations(6, 2, 2);
        start(8);
        while (left() > 5) {
            int value = left() & 255;
            DUE.is("output(21, ..)", made(x.output(21, value)), 1);
            DUE.is("sense(5, 1, ..)", made(x.sense(5, 1, value + 1)), 1);
            tick();
            DUE.is("cycle()", made(x.cycle()), 0);
            DUE.is("input(23)", made(x.input(23)), value + 1 & 255);
        }
        while (left() > 1) {
            tick();
        }
        DUE.is("state(5)", made(x.state(5)), 8);
        isAtTheEnd();
    }

    /** Station 0 takes a message and gives a reply in each cycle, so that more of them fit into a run. */
    private void messages() {
        stations(4, 2, 2);
        start(2);
        write(8, 0, 0, 48, 64, 0, 2);
        write(14, 8, 0, 48, 72, 0, 1);
        made(x.output(0, 2));
        made(x.output(1, 3));
        int rounds = 0;
        while (left() > 8) {
            made(x.cycle());
            tick();
            rounds++;
        }
        made(x.cycle());
        DUE.is("more than 200 messages", rounds > 200, true);
        DUE.is("kind", made(x.returned(1, 0)), 2);
        DUE.is("object 3, byte 0", made(x.returned(1, 2)), rounds - 1);
        DUE.is("object 3, byte 1", made(x.returned(1, 3)), 0);
        while (left() > 1) {
            tick();
        }
        DUE.is("state(0)", made(x.state(0)), 2);
        isAtTheEnd();
    }

    private void ages() {
        stations(1, 1, 0);
        start(8);
        while (left() > 5) {
            tick();
        }
        write(4, 255);
        tick();
        DUE.is("an age far above LIMIT", made(x.state(0)), 20 + 256 * 27);
        isAtTheEnd();
    }

    private void refusedCalls() {
        stations(6, 1, 1);
        start(4);
        while (left() > 1) {
            DUE.is("station(1, 1)", made(x.station(1, 1)), -1);
        }
        DUE.is("cycle()", made(x.cycle()), 0);
        isAtTheEnd();
    }

    private void scansAndSetUps() {
        stations(6, 2, 2);
        while (left() > 2) {
            DUE.is("scan()", made(x.scan()), 6);
            DUE.is("setup()", made(x.setup()), 6);
        }
        DUE.is("output(23, 1)", made(x.output(23, 1)), 1);
        DUE.is("input(23)", made(x.input(23)), 0);
        isAtTheEnd();
    }
}
