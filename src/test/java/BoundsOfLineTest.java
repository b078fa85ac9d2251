/** "THE LINE" and promises 6, 7 and 8, sentence by sentence: breaks, spoilt frames, and what is RETURNED. */
public final class BoundsOfLineTest {
    private static final Due DUE = new Due();

    public static void main(String[] args) {
        breaksAndSpoils();
        breakBeforeStationZero();
        spoiltBehindTheLast();
        notThatFar();
        inThePlaceOfWhatWasSaid();
        thatFrameAlone();
        byWhateverCall();
        callsWithoutFrames();
        stationsBehindTheLast();
        returnedIsTheLatest();
        DUE.end();
    }

    private static StationLine stations(int count) {
        StationLine x = new StationLine();
        for (int s = 0; s < count; s++) {
            x.station(0, 0);
        }
        return x;
    }

    /** Every set of breaks with every place where the frame is spoilt, or none. */
    private static void breaksAndSpoils() {
        DUE.sentence("to the last one, or to the last one before a BREAK, and comes back; .. SPOILT before station k");
        for (int count = 0; count <= 6; count++) {
            for (int breaks = 0; breaks < 1 << count; breaks++) {
                for (int spoilt = -1; spoilt <= count; spoilt++) {
                    isCarried(count, breaks, spoilt);
                }
            }
        }
    }

    private static void isCarried(int count, int breaks, int spoilt) {
        int end = breaks == 0 ? count : Integer.numberOfTrailingZeros(breaks);
        boolean getsThere = spoilt >= 0 && (spoilt < end || breaks == 0);
        boolean back = !getsThere && !(breaks != 0 && end == 0);
        int done = getsThere ? spoilt : end;
        StationLine x = stations(count);
        for (int k = 0; k < count; k++) {
            if ((breaks >> k & 1) == 1) {
                x.cut(k, true);
            }
        }
        if (spoilt >= 0) {
            x.spoil(spoilt);
        }
        String what = count + " stations, breaks " + Integer.toBinaryString(breaks) + ", spoil(" + spoilt + "): ";
        DUE.is(what + "request(7)", x.request(7), back ? end : -1);
        DUE.is(what + "RETURNED", x.returned(0, 0), back ? 7 : -1);
        DUE.is(what + "its address", x.returned(0, -2), back ? end : -1);
        x.tick();
        for (int s = 0; s < count; s++) {
            DUE.is(what + "station " + s, x.state(s), s < done ? 17 + 256 * 18 : 1);
        }
        DUE.is(what + "the next frame", x.request(7), breaks != 0 && end == 0 ? -1 : end);
    }

    private static void breakBeforeStationZero() {
        DUE.sentence("with a break before station 0 it does not come back, and nothing is done");
        for (int count = 1; count <= 6; count++) {
            StationLine x = stations(count);
            x.cut(0, true);
            x.datagram(8, 0, 100, 1);
            x.data(0, 0, 9);
            DUE.is(count + " stations: send()", x.send(), 0);
            DUE.is(count + " stations: RETURNED", x.returned(0, -2), -1);
            x.cut(0, false);
            x.datagram(7, 0, 100, 1);
            DUE.is(count + " stations: send()", x.send(), 1);
            DUE.is(count + " stations: nothing was done", x.returned(0, 0), 0);
        }
    }

    private static void spoiltBehindTheLast() {
        DUE.sentence("(or, with k the number of stations, behind the last one)");
        for (int count = 0; count <= 6; count++) {
            StationLine x = stations(count);
            x.spoil(count);
            x.datagram(8, 0, 100, 1);
            x.data(0, 0, 9);
            DUE.is(count + " stations: send()", x.send(), 0);
            x.datagram(7, 0, 100, 1);
            x.send();
            DUE.is(count + " stations: all did it", x.returned(0, 0), count == 0 ? 0 : 9);
            DUE.is(count + " stations: all did it", x.returned(0, -1), count);
        }
    }

    private static void notThatFar() {
        DUE.sentence("if it does not get that far it is not spoilt.");
        for (int broken = 0; broken < 6; broken++) {
            for (int k = broken; k <= 6; k++) {
                StationLine x = stations(6);
                x.cut(broken, true);
                x.spoil(k);
                String what = "broken before " + broken + ", spoil(" + k + "): ";
                DUE.is(what + "request(1)", x.request(1), broken == 0 ? -1 : broken);
                x.cut(broken, false);
                DUE.is(what + "that frame alone", x.request(1), 6);
            }
        }
    }

    private static void inThePlaceOfWhatWasSaid() {
        DUE.sentence("in the place of what was said before");
        for (int before = 0; before <= 4; before++) {
            for (int k = 0; k <= 4; k++) {
                StationLine x = stations(4);
                x.spoil(before);
                x.spoil(k);
                x.request(7);
                x.tick();
                for (int s = 0; s < 4; s++) {
                    String what = "spoil(" + before + "), spoil(" + k + "): station " + s;
                    DUE.is(what, x.state(s), s < k ? 17 + 256 * 18 : 1);
                }
                DUE.is("the next frame", x.request(7), 4);
            }
        }
        StationLine x = stations(4);
        x.spoil(2);
        DUE.is("spoil(5) is refused", x.spoil(5), false);
        DUE.is("spoil(-1) is refused", x.spoil(-1), false);
        x.request(7);
        x.tick();
        DUE.is("what was said before stays", x.state(1), 17 + 256 * 18);
        DUE.is("what was said before stays", x.state(2), 1);
    }

    private static void thatFrameAlone() {
        DUE.sentence("(that frame alone, also if it does not get that far)");
        Line line = Line.inState(4, 1, 1);
        line.x.spoil(0);
        DUE.is("the first frame of a set-up alone", line.x.setup(), 0);
        DUE.is("the second frame of it came back", line.got(-1), 1);
        StationLine x = stations(3);
        x.cut(1, true);
        x.spoil(2);
        DUE.is("the first frame of a scan does not get that far", x.scan(), 1);
        x.cut(1, false);
        DUE.is("the next scan", x.scan(), 3);
    }

    private static void byWhateverCall() {
        DUE.sentence("The next frame that is sent (by whatever call) is spoilt before station k");
        for (int call = 0; call < 7; call++) {
            Line line = Line.inState(4, 1, 1);
            line.x.datagram(7, 0, 0, 1);
            line.x.spoil(1);
            switch (call) {
                case 0 -> DUE.is("send()", line.x.send(), 0);
                case 1 -> DUE.is("scan()", line.x.scan(), -1);
                case 2 -> DUE.is("setup()", line.x.setup(), 0);
                case 3 -> DUE.is("request(4)", line.x.request(4), -1);
                case 4 -> DUE.is("cycle()", line.x.cycle(), 1);
                case 5 -> DUE.is("ask(0, 2, 0, 0)", line.x.ask(0, 2, 0, 0), -1);
                default -> DUE.is("answer(0)", line.x.answer(0), -1);
            }
            DUE.is("call " + call + ": the next frame", line.x.request(4), 1);
        }
    }

    private static void callsWithoutFrames() {
        DUE.sentence("The next frame that is sent (by whatever call)");
        Line line = Line.inState(4, 1, 1);
        StationLine x = line.x;
        x.spoil(1);
        x.station(1, 1);
        x.datagram(7, 0, 0, 1);
        x.data(0, 0, 1);
        x.returned(0, 0);
        x.cut(0, true);
        x.cut(0, false);
        x.tick();
        x.sense(0, 0, 1);
        x.actuator(0, 0);
        x.state(0);
        x.output(0, 1);
        x.input(0);
        x.ask(9, 2, 0, 0);
        x.answer(-1);
        DUE.is("the frame that was made ready", x.send(), 0);
        DUE.is("the next one", x.request(4), 2);
    }

    private static void stationsBehindTheLast() {
        DUE.sentence("is not done by station k and those behind");
        for (int k = 0; k <= 2; k++) {
            StationLine x = stations(2);
            x.spoil(k);
            x.station(0, 0);
            x.station(0, 0);
            DUE.is("spoil(" + k + "), two stations more: request(7)", x.request(7), -1);
            x.tick();
            for (int s = 0; s < 4; s++) {
                DUE.is("spoil(" + k + "): station " + s, x.state(s), s < k ? 17 + 256 * 18 : 1);
            }
        }
    }

    private static void returnedIsTheLatest() {
        DUE.sentence("RETURNED is the latest frame that was sent, as it came back, or nothing.");
        Line line = Line.inState(4, 1, 1);
        StationLine x = line.x;
        DUE.is("nothing at first", new StationLine().returned(0, -1), -1);
        x.datagram(7, 65530, 2, 1);
        x.datagram(7, 0, 2, 1);
        x.send();
        DUE.is("send(): address", x.returned(0, -2), 65531);
        DUE.is("send(): a second datagram", x.returned(1, -2), 1);
        x.request(4);
        DUE.is("request(4): its byte", x.returned(0, 0), 4);
        DUE.is("request(4): no second datagram", x.returned(1, -2), -1);
        x.cycle();
        DUE.is("cycle(): two bytes", x.returned(0, 1), 0);
        DUE.is("cycle(): its counter", x.returned(0, -1), 3);
        x.ask(0, 2, 0, 7);
        DUE.is("ask(0, 2, 0, 7): its bytes", x.returned(0, 2), 7);
        x.tick();
        x.answer(0);
        DUE.is("answer(0): its bytes", x.returned(0, 2), 1017 & 255);
        x.setup();
        DUE.is("setup(): map 1", x.returned(0, 3), 96);
        x.scan();
        DUE.is("scan(): station 0's number + 1", x.returned(0, 0), 1);
        DUE.is("scan(): one byte", x.returned(0, 1), -1);
        x.spoil(1);
        x.scan();
        DUE.is("a scan that does not come back", x.returned(0, 0), -1);
        x.request(4);
        x.cut(0, true);
        DUE.is("cut changes nothing", x.returned(0, 0), 4);
        x.answer(0);
        DUE.is("an answer that does not come back", x.returned(0, 0), -1);
        x.cut(0, false);
        DUE.is("nothing until the next frame", x.returned(0, 0), -1);
    }
}
