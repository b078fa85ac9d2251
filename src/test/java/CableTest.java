/** Promises 7 and 8: breaks and spoilt frames. */
public final class CableTest {
    private static final Due DUE = new Due();

    public static void main(String[] args) {
        breaks();
        refused();
        spoilt();
        oneFrameAlone();
        spoilAndBreak();
        spoilAndMoreStations();
        everyCallsFrames();
        DUE.end();
    }

    private static StationLine stations(int count) {
        StationLine x = new StationLine();
        for (int s = 0; s < count; s++) {
            x.station(0, 0);
        }
        return x;
    }

    private static void breaks() {
        StationLine x = stations(4);
        DUE.is("cut(2, true)", x.cut(2, true), true);
        DUE.is("up to the break", x.request(1), 2);
        DUE.is("cut(3, true)", x.cut(3, true), true);
        DUE.is("up to the first break", x.request(1), 2);
        DUE.is("cut(1, true)", x.cut(1, true), true);
        DUE.is("up to the first break", x.request(1), 1);
        DUE.is("cut(1, false)", x.cut(1, false), true);
        DUE.is("cut(2, false)", x.cut(2, false), true);
        DUE.is("up to the other break", x.request(1), 3);
        DUE.is("cut(3, false)", x.cut(3, false), true);
        DUE.is("whole again", x.request(1), 4);
        DUE.is("cut(3, false) once more", x.cut(3, false), true);
        DUE.is("cut(0, true)", x.cut(0, true), true);
        DUE.is("it does not come back", x.request(2), -1);
        x.tick();
        DUE.is("nothing was done", x.state(0), 1);
        x.cut(0, false);
        x.cut(2, true);
        x.request(2);
        x.tick();
        DUE.is("before the break", x.state(1), 17 + 256 * 22);
        DUE.is("behind the break", x.state(2), 1);
    }

    private static void refused() {
        StationLine x = stations(2);
        for (int k : new int[] {-1, 2, 6, Integer.MIN_VALUE, Integer.MAX_VALUE}) {
            DUE.is("cut(" + k + ", true)", x.cut(k, true), false);
        }
        for (int k : new int[] {-1, 3, 6, Integer.MIN_VALUE, Integer.MAX_VALUE}) {
            DUE.is("spoil(" + k + ")", x.spoil(k), false);
        }
        x.station(0, 0);
        DUE.is("nothing was broken or spoilt", x.request(1), 3);
        x.spoil(1);
        x.spoil(4);
        x.request(7);
        x.tick();
        DUE.is("a refused spoil leaves the one before", x.state(0), 17 + 256 * 18);
        DUE.is("a refused spoil leaves the one before", x.state(1), 1);
    }

    private static void spoilt() {
        for (int k = 0; k <= 3; k++) {
            StationLine x = stations(3);
            DUE.is("spoil(" + k + ")", x.spoil(k), true);
            DUE.is("it does not come back", x.request(7), -1);
            DUE.is("nothing is RETURNED", x.returned(0, 0), -1);
            x.tick();
            for (int s = 0; s < 3; s++) {
                DUE.is("spoil(" + k + "), station " + s, x.state(s), s < k ? 17 + 256 * 18 : 1);
            }
        }
        StationLine none = new StationLine();
        DUE.is("spoil(0) without stations", none.spoil(0), true);
        DUE.is("it does not come back", none.scan(), -1);
        DUE.is("the next one does", none.scan(), 0);
        DUE.is("spoil(1) without stations", none.spoil(1), false);
    }

    private static void oneFrameAlone() {
        StationLine x = stations(3);
        x.spoil(1);
        x.request(1);
        DUE.is("the next frame", x.request(1), 3);
        x.spoil(0);
        x.spoil(2);
        DUE.is("the later one's place", x.request(7), -1);
        x.tick();
        DUE.is("in the place of what was said before", x.state(1), 17 + 256 * 18);
        DUE.is("in the place of what was said before", x.state(2), 1);
        x.spoil(1);
        x.tick();
        x.state(0);
        x.answer(9);
        DUE.is("calls without frames do not use it up", x.request(1), -1);
    }

    private static void spoilAndBreak() {
        StationLine x = stations(3);
        x.cut(2, true);
        x.spoil(3);
        DUE.is("it does not get behind the last one", x.request(1), 2);
        x.cut(2, false);
        DUE.is("that frame alone", x.request(1), 3);
        x.cut(1, true);
        x.spoil(2);
        DUE.is("it does not get to station 2", x.request(1), 1);
        x.spoil(1);
        DUE.is("it does not get to the break itself", x.request(1), 1);
        x.spoil(0);
        DUE.is("spoilt before the break", x.request(1), -1);
        x.cut(0, true);
        x.spoil(1);
        DUE.is("a break before station 0", x.request(1), -1);
        x.cut(0, false);
        x.cut(1, false);
        DUE.is("that frame alone", x.request(1), 3);
    }

    private static void spoilAndMoreStations() {
        StationLine x = stations(1);
        x.spoil(1);
        x.station(0, 0);
        DUE.is("before station 1, which is new", x.request(7), -1);
        x.tick();
        DUE.is("station 0 did it", x.state(0), 17 + 256 * 18);
        DUE.is("station 1 did not", x.state(1), 1);
    }

    private static void everyCallsFrames() {
        Line line = Line.inState(4, 1, 1);
        StationLine x = line.x;
        x.spoil(1);
        DUE.is("cycle()", x.cycle(), 1);
        x.spoil(1);
        DUE.is("ask", x.ask(0, 2, 0, 0), -1);
        x.spoil(1);
        DUE.is("answer", x.answer(0), -1);
        x.spoil(1);
        DUE.is("setup: the first frame is spoilt", x.setup(), 0);
        DUE.is("setup", x.setup(), 1);
        x.spoil(1);
        DUE.is("scan", x.scan(), -1);
        x.spoil(0);
        x.datagram(7, 0, 0, 1);
        DUE.is("send", x.send(), 0);
        DUE.is("none is spoilt any more", x.scan(), 1);
    }
}
