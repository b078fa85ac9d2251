import java.util.Arrays;

/** "Terms", sentence by sentence: which station does a datagram, what it counts, addresses, and maps. */
public final class BoundsOfDatagramsTest {
    private static final Due DUE = new Due();
    private static final int OUTPUTS = 2;
    private static final int INBOX = 3;

    public static void main(String[] args) {
        firstThenNext();
        position();
        fixed();
        laterOneTakesThePlace();
        all();
        countsIfAllowed();
        addressModulo();
        addressThatStays();
        countsOfMaps();
        bitsOfMaps();
        placesOfMaps();
        addressesBeyondTheMaps();
        maps();
        bytesNotBelowTheEnd();
        types();
        asTheyCame();
        inTheirOrder();
        otherBitsOfPlainBytes();
        otherBitsOfOutputs();
        otherBitsOfAnInbox();
        rowsOfMaps();
        countsOnce();
        countsWhatIsAllowed();
        DUE.end();
    }

    private static Line stations(int count) {
        Line line = new Line();
        for (int s = 0; s < count; s++) {
            line.x.station(0, 0);
        }
        return line;
    }

    private static int toFind(int s) {
        return (65536 - s) % 65536;
    }

    private static int byteOf(Line line, int s, int b) {
        return line.send(1, toFind(s), b, 1) == 1 ? line.got(0) : -1;
    }

    private static void map(Line line, int m, int... fields) {
        line.write(8 + 6 * m, fields);
    }

    private static void firstThenNext() {
        DUE.sentence("Each station that it gets to does the first one, then the next, and so on");
        Line line = stations(2);
        line.x.datagram(8, 0, 100, 1);
        line.x.data(0, 0, 5);
        line.x.datagram(7, 0, 100, 1);
        line.x.datagram(8, 0, 100, 1);
        line.x.data(2, 0, 6);
        line.x.send();
        DUE.is("the second one reads what the first one wrote", line.x.returned(1, 0), 5);
        DUE.is("counters", line.x.returned(0, -1), 2);
        DUE.is("counters", line.x.returned(1, -1), 2);
        DUE.is("counters", line.x.returned(2, -1), 2);
        DUE.is("the third one is the last, station 0", byteOf(line, 0, 100), 6);
        DUE.is("the third one is the last, station 1", byteOf(line, 1, 100), 6);
    }

    private static void position() {
        DUE.sentence("1 POSITION READ, 2 POSITION WRITE: by the station that finds the address 0.");
        int[] addresses = {0, 1, 2, 5, 6, 255, 256, 32768, 65529, 65530, 65531, 65532, 65533, 65534, 65535};
        for (int count = 0; count <= 6; count++) {
            for (int address : addresses) {
                Line line = stations(count);
                for (int s = 0; s < count; s++) {
                    line.send(2, toFind(s), 101, 1, 31 + s);
                }
                int finder = (65536 - address) % 65536;
                boolean found = finder < count;
                String what = count + " stations, address " + address;
                DUE.is(what + ": write", line.send(2, address, 100, 1, 9), found ? 1 : 0);
                DUE.is(what + ": the address then", line.got(-2), (address + count) % 65536);
                DUE.is(what + ": read", line.send(1, address, 101, 1, 3), found ? 1 : 0);
                DUE.is(what + ": the address then", line.got(-2), (address + count) % 65536);
                DUE.is(what + ": the data", line.got(0), found ? 31 + finder : 3);
                for (int s = 0; s < count; s++) {
                    DUE.is(what + ": station " + s, byteOf(line, s, 100), s == finder ? 9 : 0);
                }
            }
        }
    }

    private static void fixed() {
        DUE.sentence("4 FIXED READ, 5 FIXED WRITE: by each station whose ADDRESS byte is the address");
        int[] bytes = {0, 1, 127, 128, 254, 255};
        int[] addresses = {0, 1, 127, 128, 254, 255, 256, 257, 511, 512, 32768, 65408, 65534, 65535};
        for (int b = 0; b < bytes.length; b++) {
            for (int address : addresses) {
                Line line = stations(2);
                line.send(2, 0, 0, 1, bytes[b]);
                line.send(2, 65535, 0, 1, 77);
                boolean same = bytes[b] == address;
                String what = "ADDRESS " + bytes[b] + ", address " + address;
                DUE.is(what + ": write", line.send(5, address, 100, 1, 9), same ? 1 : 0);
                DUE.is(what + ": read", line.send(4, address, 100, 1, 8), same ? 1 : 0);
                DUE.is(what + ": the data", line.got(0), same ? 9 : 8);
                DUE.is(what + ": station 0", byteOf(line, 0, 100), same ? 9 : 0);
                DUE.is(what + ": station 1", byteOf(line, 1, 100), 0);
            }
        }
        Line line = stations(6);
        DUE.is("all six have ADDRESS 0: write", line.send(5, 0, 100, 1, 9), 6);
        DUE.is("all six have ADDRESS 0: read", line.send(4, 0, 100, 1), 6);
    }

    private static void laterOneTakesThePlace() {
        DUE.sentence("(what a later one reads takes the place of what is in the data)");
        Line line = stations(3);
        for (int s = 0; s < 3; s++) {
            line.send(2, toFind(s), 100, 2, 1 << s, 16 << s);
        }
        DUE.is("read", line.send(4, 0, 100, 2, 255, 255), 3);
        DUE.is("byte 0", line.got(0), 4);
        DUE.is("byte 1", line.got(1), 64);
        line.x.cut(2, true);
        DUE.is("read up to a break", line.send(4, 0, 100, 2, 255, 255), 2);
        DUE.is("byte 0", line.got(0), 2);
    }

    private static void all() {
        DUE.sentence("7 ALL READ (what is read is or-ed into the data), 8 ALL WRITE: by each.");
        for (int count = 0; count <= 6; count++) {
            Line line = stations(count);
            int or = 128;
            for (int s = 0; s < count; s++) {
                line.send(2, toFind(s), 100, 1, 1 << s);
                or |= 1 << s;
            }
            DUE.is(count + " stations: read", line.send(7, 0, 100, 2, 128, 3), count);
            DUE.is(count + " stations: byte 0", line.got(0), or);
            DUE.is(count + " stations: byte 1", line.got(1), 3);
            DUE.is(count + " stations: write", line.send(8, 0, 127, 1, 200), count);
            DUE.is(count + " stations: the data stay", line.got(0), 200);
            for (int s = 0; s < count; s++) {
                DUE.is(count + " stations: station " + s, byteOf(line, s, 127), 200);
            }
        }
    }

    private static void countsIfAllowed() {
        DUE.sentence("They access LENGTH bytes from OFFSET on, and count 1 if it was allowed.");
        Line line = stations(3);
        line.send(2, 65535, 32, 4, 100, 2, OUTPUTS, 1);
        DUE.is("station 1 does not allow it: read", line.send(7, 0, 100, 1, 8), 2);
        DUE.is("the data", line.got(0), 8);
        DUE.is("the address", line.got(-2), 3);
        DUE.is("station 1 does not allow it: position", line.send(1, 65535, 100, 1, 8), 0);
        DUE.is("the data", line.got(0), 8);
        DUE.is("the address", line.got(-2), 2);
        DUE.is("station 1 does not allow it: fixed", line.send(4, 0, 101, 1, 8), 2);
        DUE.is("beside it", line.send(7, 0, 102, 1), 3);
        line.send(2, 65535, 34, 1, INBOX);
        DUE.is("an INBOX takes it", line.send(8, 0, 100, 2, 1, 2), 3);
        DUE.is("a full INBOX does not", line.send(8, 0, 100, 2, 3, 4), 2);
        DUE.is("station 0 got both", byteOf(line, 0, 101), 4);
        DUE.is("a part of the INBOX", line.send(8, 0, 101, 2, 5, 6), 2);
        DUE.is("nothing of it in station 1", byteOf(line, 1, 102), 0);
    }

    private static void addressModulo() {
        DUE.sentence("With 1, 2, 7 and 8 each station makes the address 1 more (modulo 65536) behind that.");
        for (int command : new int[] {1, 2, 7, 8}) {
            for (int count = 0; count <= 6; count++) {
                for (int address : new int[] {0, 1, 65529, 65530, 65531, 65534, 65535}) {
                    Line line = stations(count);
                    line.send(command, address, 100, 1);
                    String what = "command " + command + ", " + count + " stations, address " + address;
                    DUE.is(what, line.got(-2), (address + count) % 65536);
                }
            }
        }
        Line line = stations(3);
        line.x.cut(2, true);
        line.send(7, 65535, 100, 1);
        DUE.is("two stations before a break", line.got(-2), 1);
    }

    private static void addressThatStays() {
        DUE.sentence("With 1, 2, 7 and 8 each station makes the address 1 more");
        for (int command : new int[] {4, 5, 10, 11, 12}) {
            for (int address : new int[] {0, 1, 255, 65535}) {
                Line line = stations(3);
                line.send(8, 0, 8, 6, 0, 0, 8, 100, 0, 3);
                line.send(command, address, 100, 1);
                DUE.is("command " + command + ", address " + address, line.got(-2), address);
            }
        }
    }

    private static void countsOfMaps() {
        DUE.sentence("A map with COUNT 1 to 64 maps COUNT logical bits");
        for (int count = 0; count < 256; count++) {
            Line line = Line.withOne(0, 0);
            map(line, 0, 0, 0, count, 100, 0, 2);
            boolean maps = count >= 1 && count <= 64;
            int due = line.send(11, 0, 0, 8, 255, 255, 255, 255, 255, 255, 255, 255);
            DUE.is("COUNT " + count, due, maps ? 1 : 0);
            int bits = 0;
            line.read(100, 8);
            for (int i = 0; i < 8; i++) {
                bits += Integer.bitCount(line.got(i));
            }
            DUE.is("COUNT " + count + ": bits written", bits, maps ? count : 0);
            DUE.is("COUNT " + count + ": the byte behind", line.peek(108), 0);
            int behind = line.send(11, 8, 0, 1, 255);
            DUE.is("COUNT " + count + ": logical byte 8", behind, 0);
        }
    }

    private static void bitsOfMaps() {
        DUE.sentence("from 8 * LOGICAL byte + the lowest three bits of LOGICAL bit on .. (bit 0 of a byte is its lowest)");
        for (int bit : new int[] {0, 1, 6, 7, 8, 9, 15, 16, 128, 255}) {
            Line line = Line.withOne(0, 0);
            line.write(100, 1);
            map(line, 0, 5, bit, 1, 100, 0, 1);
            DUE.is("LOGICAL bit " + bit, line.send(10, 5, 0, 1), 1);
            DUE.is("LOGICAL bit " + bit, line.got(0), 1 << bit % 8);
            DUE.is("LOGICAL bit " + bit + ": the byte before", line.send(10, 4, 0, 1), 0);
            DUE.is("LOGICAL bit " + bit + ": the byte behind", line.send(10, 6, 0, 1), 0);
            map(line, 0, 5, 0, 1, 110, bit, 2);
            DUE.is("PHYSICAL bit " + bit, line.send(11, 5, 0, 1, 1), 1);
            DUE.is("PHYSICAL bit " + bit, line.peek(110), 1 << bit % 8);
            DUE.is("PHYSICAL bit " + bit + ": the byte behind", line.peek(111), 0);
        }
    }

    private static void placesOfMaps() {
        DUE.sentence("from 8 + 6 m on MAP m (0 to 3)");
        for (int at = 1; at <= 40; at++) {
            Line line = Line.withOne(0, 0);
            line.write(100, 77);
            line.write(at, 5, 0, 8, 100, 0, 1);
            boolean isMap = at == 8 || at == 14 || at == 20 || at == 26;
            DUE.is("six bytes from " + at + " on", line.send(10, 5, 0, 1), isMap ? 1 : 0);
            DUE.is("six bytes from " + at + " on", line.got(0), isMap ? 77 : 0);
        }
        Line before = Line.withOne(0, 0);
        before.write(4, 8, 100, 0, 3);
        DUE.is("STATUS, CODE, LIMIT and three bytes are no map", before.send(12, 1, 0, 1), 0);
        Line behind = Line.withOne(0, 0);
        behind.write(32, 5, 0, 8, 100, 0, 3);
        DUE.is("channels are no map", behind.send(12, 5, 0, 1), 0);
    }

    private static void addressesBeyondTheMaps() {
        DUE.sentence("the data are the logical bits 8 * address and on");
        Line line = Line.withOne(0, 0);
        map(line, 0, 0, 0, 64, 100, 0, 3);
        map(line, 1, 255, 7, 64, 110, 0, 3);
        for (int command = 10; command <= 12; command++) {
            int due = command == 12 ? 3 : 1;
            DUE.is("bytes 7 to 14", line.send(command, 7, 0, 8), due);
            DUE.is("bytes 8 to 15", line.send(command, 8, 0, 8), 0);
            DUE.is("bytes 247 to 254", line.send(command, 247, 0, 8), 0);
            DUE.is("bytes 248 to 255", line.send(command, 248, 0, 8), due);
            DUE.is("byte 263", line.send(command, 263, 0, 1), due);
            DUE.is("byte 264", line.send(command, 264, 0, 8), 0);
            DUE.is("bytes 8191 and on", line.send(command, 8191, 0, 8), 0);
            DUE.is("bytes 65535 and on: no byte 0 behind it", line.send(command, 65535, 0, 8), 0);
        }
    }

    /** Many maps and datagrams, each looked at bit by bit. */
    private static void maps() {
        DUE.sentence("For each map .. that maps some bits of the data, all of them to bytes below 128");
        int[] logicals = {0, 3, 255};
        int[] bits = {0, 1, 7, 12};
        int[] physicals = {100, 112, 119, 120, 121, 127, 128, 255};
        for (int count : new int[] {1, 2, 7, 8, 9, 17, 63, 64}) {
            for (int logical : logicals) {
                for (int logicalBit : bits) {
                    for (int physical : physicals) {
                        for (int physicalBit : bits) {
                            int[] fields = {logical, logicalBit, count, physical, physicalBit, 0};
                            mapAndDatagrams(fields);
                        }
                    }
                }
            }
        }
    }

    private static void mapAndDatagrams(int[] fields) {
        for (int back : new int[] {-9, -8, -7, -2, -1, 0, 1}) {
            int address = fields[0] - back;
            for (int length : new int[] {1, 2, 8}) {
                if (address >= 0) {
                    isReadBitByBit(fields, address, length);
                    isWrittenBitByBit(fields, address, length);
                }
            }
        }
    }

    private static int held(int b) {
        return (b * 37 + 11) & 255;
    }

    private static Line filled(int[] fields, int type) {
        Line line = Line.withOne(0, 0);
        for (int b = 96; b < 128; b += 8) {
            line.write(b, held(b), held(b + 1), held(b + 2), held(b + 3), held(b + 4), held(b + 5), held(b + 6), held(b + 7));
        }
        map(line, 0, fields[0], fields[1], fields[2], fields[3], fields[4], type);
        return line;
    }

    /** Bit i of the memory that logical bit i of the data is mapped to, or -1; all -1 if one is not below 128. */
    private static int[] mapped(int[] fields, int address, int length) {
        int[] memory = new int[8 * length];
        boolean below = true;
        for (int i = 0; i < 8 * length; i++) {
            int place = 8 * address + i - 8 * fields[0] - (fields[1] & 7);
            boolean has = place >= 0 && place < fields[2];
            memory[i] = has ? 8 * fields[3] + (fields[4] & 7) + place : -1;
            below &= memory[i] < 8 * 128;
        }
        for (int i = 0; i < 8 * length && !below; i++) {
            memory[i] = -1;
        }
        return memory;
    }

    private static String name(int[] fields, int address, int length) {
        return "map " + fields[0] + "." + fields[1] + ", " + fields[2] + ", " + fields[3] + "." + fields[4]
                + ", address " + address + ", length " + length;
    }

    private static void isReadBitByBit(int[] fields, int address, int length) {
        Line line = filled(fields, 1);
        int[] memory = mapped(fields, address, length);
        int[] due = {85, 85, 85, 85, 85, 85, 85, 85};
        int[] data = Arrays.copyOf(due, length);
        int some = 0;
        for (int i = 0; i < memory.length; i++) {
            if (memory[i] >= 0) {
                some = 1;
                int bit = held(memory[i] / 8) >> memory[i] % 8 & 1;
                due[i / 8] = due[i / 8] & ~(1 << i % 8) | bit << i % 8;
            }
        }
        String what = name(fields, address, length) + ": read";
        DUE.is(what, line.send(10, address, 0, length, data), some);
        for (int i = 0; i < length; i++) {
            DUE.is(what + ", data " + i, line.got(i), due[i]);
        }
    }

    private static void isWrittenBitByBit(int[] fields, int address, int length) {
        Line line = filled(fields, 2);
        int[] memory = mapped(fields, address, length);
        int[] due = new int[32];
        for (int b = 96; b < 128; b++) {
            due[b - 96] = held(b);
        }
        int[] data = Arrays.copyOf(new int[] {202, 53, 170, 15, 85, 240, 1, 128}, length);
        int some = 0;
        for (int i = 0; i < memory.length; i++) {
            if (memory[i] >= 0) {
                some = 1;
                int b = memory[i] / 8 - 96;
                int bit = data[i / 8] >> i % 8 & 1;
                due[b] = due[b] & ~(1 << memory[i] % 8) | bit << memory[i] % 8;
            }
        }
        String what = name(fields, address, length) + ": write";
        DUE.is(what, line.send(11, address, 0, length, data), some);
        for (int b = 96; b < 128; b += 8) {
            line.read(b, 8);
            for (int i = 0; i < 8; i++) {
                DUE.is(what + ", byte " + (b + i), line.got(i), due[b + i - 96]);
            }
        }
    }

    private static void bytesNotBelowTheEnd() {
        DUE.sentence("all of them to bytes below 128");
        Line line = Line.withOne(0, 0);
        map(line, 0, 0, 0, 64, 120, 0, 3);
        DUE.is("64 bits up to the last one", line.send(12, 0, 0, 8), 3);
        map(line, 0, 0, 0, 64, 120, 1, 3);
        DUE.is("one bit is not below", line.send(12, 0, 0, 8, 7), 0);
        DUE.is("its data stay", line.got(0), 7);
        DUE.is("this bit is not of the data", line.send(12, 0, 0, 7, 7), 3);
        map(line, 0, 0, 0, 64, 119, 7, 3);
        DUE.is("64 bits in nine bytes", line.send(12, 0, 0, 8), 3);
        map(line, 0, 0, 0, 1, 127, 7, 3);
        DUE.is("the last bit", line.send(12, 0, 0, 1, 1), 3);
        DUE.is("the last bit", line.peek(127) >> 7, 1);
        map(line, 0, 0, 0, 1, 128, 0, 3);
        DUE.is("the first bit that is not below", line.send(12, 0, 0, 1), 0);
        map(line, 0, 0, 0, 1, 255, 7, 3);
        DUE.is("the last bit of all", line.send(12, 0, 0, 1), 0);
        map(line, 0, 0, 0, 64, 127, 0, 3);
        map(line, 1, 0, 0, 8, 100, 0, 3);
        DUE.is("another map is done all the same", line.send(12, 0, 0, 2, 5, 6), 3);
        DUE.is("byte 100", line.peek(100), 5);
    }

    private static void types() {
        DUE.sentence("if TYPE has bit 0 and the command is not 11 .. if TYPE has bit 1 and the command is not 10");
        for (int type = 0; type < 256; type++) {
            for (int command = 10; command <= 12; command++) {
                Line line = Line.withOne(0, 0);
                line.write(100, 0x55);
                map(line, 3, 3, 0, 8, 100, 0, type);
                boolean reads = type % 2 == 1 && command != 11;
                boolean writes = type / 2 % 2 == 1 && command != 10;
                int due = (reads ? 1 : 0) + (writes ? command == 12 ? 2 : 1 : 0);
                String what = "TYPE " + type + ", command " + command;
                DUE.is(what, line.send(command, 3, 0, 1, 0x0f), due);
                DUE.is(what + ": the data", line.got(0), reads ? 0x55 : 0x0f);
                DUE.is(what + ": the byte", line.peek(100), writes ? 0x0f : 0x55);
            }
        }
    }

    private static void asTheyCame() {
        DUE.sentence("they are written, with the bits of the data as these came to the station");
        Line line = stations(2);
        line.x.scan();
        for (int s = 0; s < 2; s++) {
            line.send(5, s + 1, 100, 2, 10 + s, 20 + s);
            line.send(5, s + 1, 8, 6, 0, 0, 8, 100, 0, 1);
            line.send(5, s + 1, 14, 6, 0, 0, 8, 101, 0, 2);
        }
        DUE.is("exchange", line.send(12, 0, 0, 1, 99), 6);
        DUE.is("what the last one reads", line.got(0), 11);
        DUE.is("station 0 writes the master's", byteOf(line, 0, 101), 99);
        DUE.is("station 1 writes station 0's", byteOf(line, 1, 101), 10);
    }

    private static void inTheirOrder() {
        DUE.sentence("For each map, in their order");
        for (int m = 0; m < 3; m++) {
            Line line = Line.withOne(0, 0);
            line.write(100, 51, 52);
            map(line, m, 0, 0, 8, 100, 0, 1);
            map(line, m + 1, 0, 0, 8, 101, 0, 1);
            line.send(10, 0, 0, 1, 9);
            DUE.is("both read into one byte: the later one's", line.got(0), 52);
            map(line, m, 0, 0, 8, 102, 0, 2);
            map(line, m + 1, 1, 0, 8, 102, 0, 2);
            line.send(11, 0, 0, 2, 7, 8);
            DUE.is("both write to one byte: the later one's", line.peek(102), 8);
            map(line, m, 0, 0, 8, 103, 0, 2);
            map(line, m + 1, 1, 0, 8, 103, 0, 1);
            line.send(12, 0, 0, 2, 7, 8);
            DUE.is("the later one reads what the earlier one wrote", line.got(1), 7);
            map(line, m, 1, 0, 8, 103, 0, 1);
            map(line, m + 1, 0, 0, 8, 103, 0, 2);
            line.send(12, 0, 0, 2, 6, 8);
            DUE.is("the earlier one reads what was before", line.got(1), 7);
            DUE.is("the later one writes then", line.peek(103), 6);
            map(line, m, 0, 0, 8, 8 + 6 * (m + 1) + 3, 0, 2);
            map(line, m + 1, 1, 0, 8, 104, 0, 2);
            line.send(11, 0, 0, 2, 105, 44);
            DUE.is("an earlier one that writes PHYSICAL byte of the later one", line.peek(105), 44);
            DUE.is("its byte of before", line.peek(104), 0);
        }
    }

    private static void otherBitsOfPlainBytes() {
        DUE.sentence("(other bits of these bytes stay");
        for (int first = 0; first < 8; first++) {
            for (int count = 1; count <= 16; count++) {
                Line line = Line.withOne(0, 0);
                line.write(100, 255, 255, 255);
                map(line, 0, 0, 0, count, 100, first, 2);
                line.send(11, 0, 0, 2, 0, 0);
                int due = 0xffffff & ~(((1 << count) - 1) << first);
                line.read(100, 3);
                int held = line.got(0) | line.got(1) << 8 | line.got(2) << 16;
                DUE.is(count + " bits from " + first, held, due);
            }
        }
    }

    private static void otherBitsOfOutputs() {
        DUE.sentence("(other bits of these bytes stay: in OUTPUTS as they are in FRESH");
        Line line = Line.inState(8, 2, 0);
        line.write(80, 0xff, 0xff);
        line.write(80, 0x0f);
        map(line, 0, 0, 0, 1, 81, 0, 2);
        DUE.is("one bit of the last byte", line.send(11, 0, 0, 1, 0), 1);
        line.x.tick();
        DUE.is("DONE becomes FRESH", line.x.actuator(0, 0), 0x0f);
        DUE.is("its other bits stay", line.x.actuator(0, 1), 0xfe);
        map(line, 0, 0, 0, 1, 80, 7, 2);
        DUE.is("one bit of the first byte", line.send(11, 0, 0, 1, 1), 1);
        line.x.tick();
        DUE.is("not yet in DONE", line.x.actuator(0, 0), 0x0f);
        map(line, 0, 0, 0, 2, 80, 7, 2);
        DUE.is("a bit of each byte", line.send(11, 0, 0, 1, 3), 1);
        line.x.tick();
        DUE.is("other bits as in FRESH", line.x.actuator(0, 0), 0x8f);
        DUE.is("other bits as in FRESH", line.x.actuator(0, 1), 0xff);
        line.write(80, 1, 2);
        line.write(43, 0);
        line.write(80, 99, 99);
        line.write(43, 1);
        DUE.is("a bit of each byte", line.send(11, 0, 0, 1, 0), 1);
        line.x.tick();
        DUE.is("not as in the memory", line.x.actuator(0, 0), 0);
        DUE.is("not as in the memory", line.x.actuator(0, 1), 0);
    }

    private static void otherBitsOfAnInbox() {
        DUE.sentence("(other bits of these bytes stay: .. in an INBOX as in DONE)");
        Line line = Line.inState(2, 0, 0);
        line.x.ask(0, 1, 1, 0x7e5a3c81);
        line.x.tick();
        line.x.answer(0);
        // 34 bits from bit 7 of the first byte on have a bit of each of the six bytes.
        map(line, 0, 0, 0, 34, 64, 7, 2);
        DUE.is("34 bits", line.send(11, 0, 0, 5, 2, 2, 4, 6, 2), 1);
        line.x.tick();
        DUE.is("answer", line.x.answer(0), 1);
        DUE.is("kind: the lowest bits were those of DONE", line.got(0), 1);
        DUE.is("index", line.got(1), 1);
        line.x.ask(0, 2, 1, 0);
        line.x.tick();
        line.x.answer(0);
        DUE.is("value, byte 0", line.got(2), 1);
        DUE.is("value, byte 1", line.got(3), 2);
        DUE.is("value, byte 2", line.got(4), 3);
        DUE.is("value, byte 3: the highest bits were those of DONE", line.got(5), 0x7e & ~1 | 1);
    }

    private static void rowsOfMaps() {
        DUE.sentence("the bytes that have these bits are read");
        Line line = Line.withOne(0, 0);
        line.write(32, 100, 2, INBOX, 1);
        map(line, 0, 0, 0, 16, 100, 0, 2);
        DUE.is("the data have one byte of an INBOX of two", line.send(11, 0, 0, 1, 1), 0);
        DUE.is("it is not full", line.peek(48), 0);
        DUE.is("they have both", line.send(11, 0, 0, 2, 1, 2), 1);
        DUE.is("it is full", line.peek(48), 1);
        DUE.is("it takes no more", line.send(11, 0, 0, 2, 1, 2), 0);
        line.write(32, 100, 2, INBOX, 1);
        map(line, 0, 0, 0, 2, 100, 7, 2);
        DUE.is("the last bit of one byte, the first of the other", line.send(11, 0, 0, 1, 1), 1);
        line.write(32, 100, 2, INBOX, 1);
        map(line, 0, 0, 0, 8, 100, 0, 2);
        DUE.is("all bits of one byte", line.send(11, 0, 0, 1, 1), 0);
        map(line, 0, 0, 0, 9, 99, 7, 2);
        DUE.is("the byte before, and all bits of one byte", line.send(11, 0, 0, 2, 1), 0);
        map(line, 0, 0, 0, 10, 99, 7, 2);
        DUE.is("one bit more", line.send(11, 0, 0, 2, 1), 1);

        Line inputs = Line.inState(4, 0, 2);
        inputs.x.sense(0, 0, 0xff);
        inputs.x.sense(0, 1, 0xff);
        inputs.x.tick();
        map(inputs, 1, 0, 0, 0, 0, 0, 0);
        map(inputs, 0, 0, 0, 8, 97, 0, 1);
        DUE.is("the second byte of INPUTS", inputs.send(10, 0, 0, 1), 1);
        DUE.is("it is not renewed", inputs.got(0), 0);
        map(inputs, 0, 0, 0, 8, 96, 7, 1);
        DUE.is("one bit of the first byte", inputs.send(10, 0, 0, 1), 1);
        DUE.is("it is renewed", inputs.got(0), 0xff);
    }

    private static void countsOnce() {
        DUE.sentence("Reading by some map counts 1, writing by some map counts 1 (2 with command 12).");
        for (int readers = 0; readers <= 4; readers++) {
            for (int writers = 0; readers + writers <= 4; writers++) {
                for (int command = 10; command <= 12; command++) {
                    Line line = Line.withOne(0, 0);
                    for (int m = 0; m < readers + writers; m++) {
                        map(line, m, m, 0, 8, 100 + m, 0, m < readers ? 1 : 2);
                    }
                    int due = (readers > 0 && command != 11 ? 1 : 0)
                            + (writers > 0 && command != 10 ? command == 12 ? 2 : 1 : 0);
                    String what = readers + " read, " + writers + " write, command " + command;
                    DUE.is(what, line.send(command, 0, 0, 8), due);
                }
            }
        }
    }

    private static void countsWhatIsAllowed() {
        DUE.sentence("Reading by some map counts 1, writing by some map counts 1");
        for (int m = 0; m < 4; m++) {
            for (int command = 10; command <= 12; command++) {
                Line line = Line.withOne(0, 0);
                line.write(32, 100, 4, 9, 1);
                line.send(8, 0, 110, 4, 81, 82, 83, 84);
                for (int other = 0; other < 4; other++) {
                    map(line, other, other, 0, 8, 100 + other, 0, 3);
                }
                DUE.is("none is allowed, command " + command, line.send(command, 0, 0, 4), 0);
                map(line, m, m, 0, 8, 110 + m, 0, 3);
                DUE.is("map " + m + " is allowed, command " + command, line.send(command, 0, 0, 4), command == 12 ? 3 : 1);
                for (int i = 0; i < 4; i++) {
                    DUE.is("data " + i, line.got(i), i == m && command != 11 ? 81 + i : 0);
                }
                map(line, m, m, 0, 8, 120, 0, 3);
                line.write(32, 120, 1, OUTPUTS, 1);
                map(line, (m + 1) % 4, 0, 0, 0, 0, 0, 0);
                map(line, (m + 2) % 4, 0, 0, 0, 0, 0, 0);
                map(line, (m + 3) % 4, 0, 0, 0, 0, 0, 0);
                int due = command == 10 ? 0 : command == 11 ? 1 : 2;
                DUE.is("OUTPUTS are written, not read, command " + command, line.send(command, 0, 0, 4), due);
            }
        }
    }
}
