import java.util.Arrays;

/**
 * A line of stations through which frames pass, and the master at its beginning.
 *
 * <p>The master's calls stand in this class itself. The classes inside are, from the outside in: the line
 * with its breaks, the frames and their datagrams, the stations, their memory, and the master's image.
 */
public final class StationLine {
    private static final int MOST_STATIONS = 6;
    private static final int MOST_OUTPUTS = 2;
    private static final int MOST_INPUTS = 2;
    private static final int MOST_DATAGRAMS = 3;
    private static final int MOST_DATA = 8;
    private static final int MOST_ADDRESS = 65535;
    private static final int BYTE = 255;

    private static final int POSITION_READ = 1;
    private static final int POSITION_WRITE = 2;
    private static final int FIXED_READ = 4;
    private static final int FIXED_WRITE = 5;
    private static final int ALL_READ = 7;
    private static final int ALL_WRITE = 8;
    private static final int LOGICAL_READ = 10;
    private static final int LOGICAL_WRITE = 11;
    private static final int LOGICAL_EXCHANGE = 12;

    private static final int MEMORY_SIZE = 128;
    private static final int ADDRESS = 0;
    private static final int CONTROL = 1;
    private static final int STATUS = 2;
    private static final int CODE = 3;
    private static final int LIMIT = 4;
    private static final int FIRST_MAP = 8;
    private static final int MAP_SIZE = 6;
    private static final int MAPS = 4;
    private static final int MOST_MAPPED = 64;
    private static final int MAP_READS = 1;
    private static final int MAP_WRITES = 2;
    /** Mapped bits need not begin where a byte does, so they may lie in one byte more than they fill. */
    private static final int LONGEST_ROW = MOST_MAPPED / 8 + 1;
    private static final int FIRST_CHANNEL = 32;
    private static final int CHANNEL_SIZE = 4;
    private static final int CHANNELS = 4;
    private static final int FULL = 48;
    private static final int LEAST_START = 64;
    private static final int MOST_LENGTH = 8;

    private static final int INPUTS = 0;
    private static final int OUTBOX = 1;
    private static final int OUTPUTS = 2;
    private static final int INBOX = 3;

    private static final int ASKED = 0;
    private static final int REPLIED = 1;
    private static final int OUT = 2;
    private static final int IN = 3;
    private static final int ASKED_START = 64;
    private static final int REPLIED_START = 72;
    private static final int OUT_START = 80;
    private static final int IN_START = 96;
    private static final int MESSAGE = 6;

    private static final int INIT = 1;
    private static final int READY = 2;
    private static final int SAFE = 4;
    private static final int RUN = 8;
    private static final int ERROR = 16;

    private static final int MORE_THAN_ONE_STEP = 17;
    private static final int NO_STATE = 18;
    private static final int NO_MAILBOX = 22;
    private static final int NO_FRESH_OUTPUTS = 27;
    private static final int WRONG_OUTPUTS = 29;
    private static final int WRONG_INPUTS = 30;

    private static final int SET_VALUE = 1;
    private static final int GET_VALUE = 2;
    private static final int NOT_DONE = 3;
    private static final int OBJECTS = 4;
    private static final int MESSAGES_DONE = 3;

    private static final int MOST_IMAGE = MOST_STATIONS * (MOST_OUTPUTS + MOST_INPUTS);

    private final Line line;
    private final Image image;
    private Frame ready;
    private Frame latest;
    private boolean cameBack;
    private int found;

    public StationLine() {
        line = new Line();
        image = new Image();
        ready = new Frame();
        latest = new Frame();
    }

    public int station(int outputs, int inputs) {
        if (outputs < 0 || outputs > MOST_OUTPUTS || inputs < 0 || inputs > MOST_INPUTS) {
            return -1;
        }
        if (line.count >= MOST_STATIONS) {
            return -1;
        }
        line.stations[line.count] = new Station(outputs, inputs);
        line.count++;
        return line.count - 1;
    }

    public int datagram(int command, int address, int offset, int length) {
        if (ready.size >= MOST_DATAGRAMS || !isCommand(command)) {
            return -1;
        }
        if (address < 0 || address > MOST_ADDRESS || length < 1 || length > MOST_DATA) {
            return -1;
        }
        if (command < LOGICAL_READ && (offset < 0 || offset >= MEMORY_SIZE)) {
            return -1;
        }
        ready.append(command, address, offset, length);
        return ready.size - 1;
    }

    public boolean data(int d, int i, int value) {
        if (!ready.hasByte(d, i)) {
            return false;
        }
        ready.datagrams[d].bytes[i] = value & BYTE;
        return true;
    }

    public int send() {
        if (ready.size == 0) {
            return -1;
        }
        Frame frame = ready;
        ready = latest;
        latest = frame;
        ready.size = 0;
        cameBack = line.carry(latest);
        return cameBack ? 1 : 0;
    }

    public int returned(int d, int i) {
        if (!cameBack || !latest.hasDatagram(d)) {
            return -1;
        }
        if (i == -1) {
            return latest.datagrams[d].counter;
        }
        if (i == -2) {
            return latest.datagrams[d].address;
        }
        return latest.hasByte(d, i) ? latest.datagrams[d].bytes[i] : -1;
    }

    public boolean cut(int k, boolean broken) {
        if (!line.hasStation(k)) {
            return false;
        }
        line.broken[k] = broken;
        return true;
    }

    public boolean spoil(int k) {
        if (k < 0 || k > line.count) {
            return false;
        }
        line.spoilBefore = k;
        return true;
    }

    public void tick() {
        for (int s = 0; s < line.count; s++) {
            line.stations[s].makeTick();
        }
    }

    public boolean sense(int station, int i, int value) {
        if (!line.hasStation(station) || i < 0 || i >= line.stations[station].inputs) {
            return false;
        }
        line.stations[station].sensors[i] = value & BYTE;
        return true;
    }

    public int actuator(int station, int i) {
        if (!line.hasStation(station) || i < 0 || i >= line.stations[station].outputs) {
            return -1;
        }
        return line.stations[station].actuators[i];
    }

    public int state(int station) {
        if (!line.hasStation(station)) {
            return -1;
        }
        int[] bytes = line.stations[station].memory.bytes;
        return bytes[STATUS] + 256 * bytes[CODE];
    }

    public int scan() {
        image.forget();
        found = 0;
        Datagram all = startFrame(ALL_READ, 0, 0, 1);
        cameBack = line.carry(latest);
        if (!cameBack) {
            return -1;
        }
        found = all.counter;
        for (int s = 0; s < found; s++) {
            Datagram one = startFrame(POSITION_WRITE, (MOST_ADDRESS + 1 - s) & MOST_ADDRESS, ADDRESS, 1);
            one.bytes[0] = s + 1;
            cameBack = line.carry(latest);
        }
        return found;
    }

    public int setup() {
        image.forget();
        int well = 0;
        for (int s = 0; s < found && s < line.count; s++) {
            image.append(line.stations[s]);
            startChannelsFrame(s);
            cameBack = line.carry(latest);
            boolean first = cameBack && latest.isCountedOnce();
            startInputsFrame(s);
            cameBack = line.carry(latest);
            boolean second = cameBack && latest.isCountedOnce();
            if (first && second) {
                well++;
            }
        }
        return well;
    }

    public int request(int control) {
        Datagram all = startFrame(ALL_WRITE, 0, CONTROL, 1);
        all.bytes[0] = control & BYTE;
        cameBack = line.carry(latest);
        return cameBack ? all.counter : -1;
    }

    public boolean output(int i, int value) {
        if (i < 0 || i >= image.size) {
            return false;
        }
        image.sent[i] = value & BYTE;
        return true;
    }

    public int cycle() {
        if (image.size == 0) {
            return -1;
        }
        latest.size = 0;
        for (int at = 0; at < image.size; at += MOST_DATA) {
            int length = Math.min(MOST_DATA, image.size - at);
            Datagram part = latest.append(LOGICAL_EXCHANGE, at, 0, length);
            System.arraycopy(image.sent, at, part.bytes, 0, length);
        }
        cameBack = line.carry(latest);
        if (!cameBack) {
            return 1;
        }
        for (int d = 0; d < latest.size; d++) {
            if (latest.datagrams[d].counter != image.expected(d * MOST_DATA)) {
                return 2 + d;
            }
        }
        for (int d = 0; d < latest.size; d++) {
            System.arraycopy(latest.datagrams[d].bytes, 0, image.got, d * MOST_DATA, latest.datagrams[d].length);
        }
        return 0;
    }

    public int input(int i) {
        return i >= 0 && i < image.size ? image.got[i] : -1;
    }

    public int ask(int station, int kind, int index, int value) {
        if (!line.hasStation(station)) {
            return -1;
        }
        Datagram message = startFrame(FIXED_WRITE, station + 1, ASKED_START, MESSAGE);
        writeMessage(message.bytes, kind & BYTE, index & BYTE, value);
        cameBack = line.carry(latest);
        return cameBack ? message.counter : -1;
    }

    public int answer(int station) {
        if (!line.hasStation(station)) {
            return -1;
        }
        Datagram reply = startFrame(FIXED_READ, station + 1, REPLIED_START, MESSAGE);
        cameBack = line.carry(latest);
        return cameBack ? reply.counter : -1;
    }

    private static boolean isCommand(int command) {
        switch (command) {
            case POSITION_READ:
            case POSITION_WRITE:
            case FIXED_READ:
            case FIXED_WRITE:
            case ALL_READ:
            case ALL_WRITE:
            case LOGICAL_READ:
            case LOGICAL_WRITE:
            case LOGICAL_EXCHANGE:
                return true;
            default:
                return false;
        }
    }

    /** A frame of the master takes the place of the latest one; the frame that is made ready stays. */
    private Datagram startFrame(int command, int address, int offset, int length) {
        latest.size = 0;
        return latest.append(command, address, offset, length);
    }

    private void startChannelsFrame(int s) {
        Station station = line.stations[s];
        Datagram mailbox = startFrame(FIXED_WRITE, s + 1, FIRST_CHANNEL, 2 * CHANNEL_SIZE);
        writeChannel(mailbox.bytes, 0, ASKED_START, MESSAGE, INBOX);
        writeChannel(mailbox.bytes, CHANNEL_SIZE, REPLIED_START, MESSAGE, OUTBOX);
        Datagram process = latest.append(FIXED_WRITE, s + 1, FIRST_CHANNEL + OUT * CHANNEL_SIZE, 2 * CHANNEL_SIZE);
        writeChannel(process.bytes, 0, OUT_START, station.outputs, OUTPUTS);
        writeChannel(process.bytes, CHANNEL_SIZE, IN_START, station.inputs, INPUTS);
        Datagram map = latest.append(FIXED_WRITE, s + 1, FIRST_MAP, MAP_SIZE);
        writeMap(map.bytes, image.outputsAt[s], station.outputs, OUT_START, MAP_WRITES);
    }

    private void startInputsFrame(int s) {
        Datagram map = startFrame(FIXED_WRITE, s + 1, FIRST_MAP + MAP_SIZE, MAP_SIZE);
        writeMap(map.bytes, image.inputsAt[s], line.stations[s].inputs, IN_START, MAP_READS);
    }

    private static void writeChannel(int[] bytes, int at, int start, int length, int mode) {
        bytes[at] = start;
        bytes[at + 1] = length;
        bytes[at + 2] = mode;
        bytes[at + 3] = length > 0 ? 1 : 0;
    }

    private static void writeMap(int[] bytes, int place, int length, int start, int type) {
        bytes[0] = place;
        bytes[1] = 0;
        bytes[2] = 8 * length;
        bytes[3] = start;
        bytes[4] = 0;
        bytes[5] = type;
    }

    private static void writeMessage(int[] bytes, int kind, int index, int value) {
        bytes[0] = kind;
        bytes[1] = index;
        for (int i = 0; i < 4; i++) {
            bytes[2 + i] = (value >>> (8 * i)) & BYTE;
        }
    }

    private static final class Datagram {
        int command;
        int address;
        int offset;
        int length;
        int counter;
        final int[] bytes = new int[MOST_DATA];
    }

    private static final class Frame {
        final Datagram[] datagrams = new Datagram[MOST_DATAGRAMS];
        int size;

        Frame() {
            for (int d = 0; d < MOST_DATAGRAMS; d++) {
                datagrams[d] = new Datagram();
            }
        }

        /** Only while there are less than three: the callers look at that. */
        Datagram append(int command, int address, int offset, int length) {
            Datagram added = datagrams[size];
            size++;
            added.command = command;
            added.address = address;
            added.offset = offset;
            added.length = length;
            added.counter = 0;
            Arrays.fill(added.bytes, 0);
            return added;
        }

        boolean hasDatagram(int d) {
            return d >= 0 && d < size;
        }

        boolean isCountedOnce() {
            for (int d = 0; d < size; d++) {
                if (datagrams[d].counter != 1) {
                    return false;
                }
            }
            return true;
        }

        boolean hasByte(int d, int i) {
            return hasDatagram(d) && i >= 0 && i < datagrams[d].length;
        }
    }

    private static final class Line {
        final Station[] stations = new Station[MOST_STATIONS];
        final boolean[] broken = new boolean[MOST_STATIONS];
        int count;
        /** Where the next frame is spoilt; -1: nowhere. */
        int spoilBefore = -1;

        boolean hasStation(int k) {
            return k >= 0 && k < count;
        }

        /** The frame goes to the stations that it gets to; true if it comes back. */
        boolean carry(Frame frame) {
            int reach = stationsBeforeBreak();
            int spoilt = spoilBefore;
            spoilBefore = -1;
            // A frame that turns round at a break is never on the cable behind it.
            boolean lost = spoilt >= 0 && (spoilt < reach || spoilt == reach && reach == count);
            int doing = lost ? spoilt : reach;
            for (int s = 0; s < doing; s++) {
                for (int d = 0; d < frame.size; d++) {
                    stations[s].perform(frame.datagrams[d]);
                }
            }
            boolean cutOff = count > 0 && broken[0];
            return !lost && !cutOff;
        }

        private int stationsBeforeBreak() {
            for (int s = 0; s < count; s++) {
                if (broken[s]) {
                    return s;
                }
            }
            return count;
        }
    }

    /** What the master knows of the stations that are set up, and what it exchanges with them. */
    private static final class Image {
        final int[] sent = new int[MOST_IMAGE];
        final int[] got = new int[MOST_IMAGE];
        final int[] outputsAt = new int[MOST_STATIONS];
        final int[] inputsAt = new int[MOST_STATIONS];
        final int[] endsAt = new int[MOST_STATIONS];
        int stations;
        int size;

        void forget() {
            stations = 0;
            size = 0;
            Arrays.fill(sent, 0);
            Arrays.fill(got, 0);
        }

        /** Only while there are less than six: the master does not find more. */
        void append(Station station) {
            outputsAt[stations] = size;
            inputsAt[stations] = size + station.outputs;
            endsAt[stations] = size + station.outputs + station.inputs;
            size = endsAt[stations];
            stations++;
        }

        /** The counter that is due for the datagram whose bytes begin at this place of the image. */
        int expected(int at) {
            int counter = 0;
            for (int s = 0; s < stations; s++) {
                if (meet(outputsAt[s], inputsAt[s], at)) {
                    counter += 2;
                }
                if (meet(inputsAt[s], endsAt[s], at)) {
                    counter++;
                }
            }
            return counter;
        }

        private static boolean meet(int from, int end, int at) {
            return Math.max(from, at) < Math.min(end, at + MOST_DATA);
        }
    }

    /** The bytes of a station and the rows of its channels, as frames get access to them. */
    private static final class Memory {
        final int[] bytes = new int[MEMORY_SIZE];
        final int[][] fresh = new int[CHANNELS][MOST_LENGTH];
        final int[][] done = new int[CHANNELS][MOST_LENGTH];
        final boolean[] written = new boolean[CHANNELS];
        /** What the latest access read, or what the next one is to write. */
        final int[] row = new int[LONGEST_ROW];
        /** The bits that the next access is to write; the others stay. */
        final int[] mask = new int[LONGEST_ROW];
        /** The channel that has each byte of the row; -1: none. */
        private final int[] owners = new int[LONGEST_ROW];
        boolean controlWritten;
        /** Whether DONE of channel 2 became what FRESH is since the station last forgot it. */
        boolean outputsRenewed;
        int age;

        boolean isOpen(int c) {
            int at = FIRST_CHANNEL + c * CHANNEL_SIZE;
            int start = bytes[at];
            int length = bytes[at + 1];
            return bytes[at + 3] == 1 && start >= LEAST_START && length >= 1 && length <= MOST_LENGTH
                    && start + length <= MEMORY_SIZE;
        }

        boolean isOpenAs(int c, int mode, int length) {
            return isOpen(c) && modeOf(c) == mode && lengthOf(c) == length;
        }

        boolean isOn(int c) {
            return bytes[FIRST_CHANNEL + c * CHANNEL_SIZE + 3] != 0;
        }

        private int startOf(int c) {
            return bytes[FIRST_CHANNEL + c * CHANNEL_SIZE];
        }

        private int lengthOf(int c) {
            return bytes[FIRST_CHANNEL + c * CHANNEL_SIZE + 1];
        }

        private int modeOf(int c) {
            return bytes[FIRST_CHANNEL + c * CHANNEL_SIZE + 2];
        }

        /** Reads the bytes from first to last into the row, if that is allowed. */
        boolean readRow(int first, int last) {
            if (last >= MEMORY_SIZE) {
                return false;
            }
            findOwners(first, last);
            if (!isAllowed(first, last, false)) {
                return false;
            }
            for (int b = first; b <= last; b++) {
                int c = owners[b - first];
                if (c >= 0) {
                    beforeReading(b, c);
                }
                row[b - first] = heldByte(b, c);
            }
            return true;
        }

        /** Writes the row's bits that the mask has to the bytes from first to last, if that is allowed. */
        boolean writeRow(int first, int last) {
            if (last >= MEMORY_SIZE) {
                return false;
            }
            findOwners(first, last);
            if (!isAllowed(first, last, true)) {
                return false;
            }
            for (int b = first; b <= last; b++) {
                int c = owners[b - first];
                int bits = mask[b - first];
                int value = heldByte(b, c) & ~bits | row[b - first] & bits;
                if (c >= 0) {
                    storeInChannel(b, c, value);
                } else {
                    storePlain(b, value);
                }
            }
            return true;
        }

        private void findOwners(int first, int last) {
            Arrays.fill(owners, -1);
            // From the greatest number down, so that the least one has the last word.
            for (int c = CHANNELS - 1; c >= 0; c--) {
                if (isOpen(c)) {
                    int end = Math.min(last, startOf(c) + lengthOf(c) - 1);
                    for (int b = Math.max(first, startOf(c)); b <= end; b++) {
                        owners[b - first] = c;
                    }
                }
            }
        }

        private boolean isAllowed(int first, int last, boolean writing) {
            for (int b = first; b <= last; b++) {
                int c = owners[b - first];
                if (c >= 0 && !allows(c, first, last, writing)) {
                    return false;
                }
            }
            return true;
        }

        private boolean allows(int c, int first, int last, boolean writing) {
            int at = FIRST_CHANNEL + c * CHANNEL_SIZE;
            boolean whole = first <= bytes[at] && last >= bytes[at] + bytes[at + 1] - 1;
            switch (bytes[at + 2]) {
                case INPUTS:
                    return !writing && written[c];
                case OUTBOX:
                    return !writing && whole && bytes[FULL + c] == 1;
                case OUTPUTS:
                    return writing;
                case INBOX:
                    return writing && whole && bytes[FULL + c] == 0;
                default:
                    return false;
            }
        }

        /** The first byte of an area is the lowest, so FRESH changes before any byte of it is read. */
        private void beforeReading(int b, int c) {
            if (modeOf(c) == OUTBOX) {
                bytes[FULL + c] = 0;
            } else if (modeOf(c) == INPUTS && b == startOf(c)) {
                System.arraycopy(done[c], 0, fresh[c], 0, MOST_LENGTH);
            }
        }

        private int heldByte(int b, int c) {
            if (c < 0) {
                return bytes[b];
            }
            int place = b - startOf(c);
            boolean box = modeOf(c) == INBOX || modeOf(c) == OUTBOX;
            return box ? done[c][place] : fresh[c][place];
        }

        /** The last byte of an area is the highest, so DONE changes when all of the row is in FRESH. */
        private void storeInChannel(int b, int c, int value) {
            int place = b - startOf(c);
            if (modeOf(c) == INBOX) {
                done[c][place] = value;
                bytes[FULL + c] = 1;
                return;
            }
            fresh[c][place] = value;
            if (place == lengthOf(c) - 1) {
                System.arraycopy(fresh[c], 0, done[c], 0, MOST_LENGTH);
                written[c] = true;
                if (c == OUT) {
                    outputsRenewed = true;
                    age = 0;
                }
            }
        }

        private void storePlain(int b, int value) {
            if (b == STATUS || b == CODE || b >= FULL && b < FULL + CHANNELS) {
                return;
            }
            bytes[b] = value;
            if (b == CONTROL) {
                controlWritten = true;
            }
            if (b >= FIRST_CHANNEL && b < FIRST_CHANNEL + CHANNELS * CHANNEL_SIZE) {
                clearChannel((b - FIRST_CHANNEL) / CHANNEL_SIZE);
            }
        }

        private void clearChannel(int c) {
            for (int i = 0; i < MOST_LENGTH; i++) {
                fresh[c][i] = 0;
                done[c][i] = 0;
            }
            written[c] = false;
            bytes[FULL + c] = 0;
        }
    }

    /** The bits of a datagram's data that a map of a station maps, and where in the memory they are. */
    private static final class MappedBits {
        private int dataBit;
        private int memoryBit;
        private int count;

        /** Looks which bits map m maps; false if none, or not all of them to bytes of the memory. */
        boolean find(int[] bytes, int m, Datagram d) {
            int at = FIRST_MAP + m * MAP_SIZE;
            int mapped = bytes[at + 2];
            if (mapped < 1 || mapped > MOST_MAPPED) {
                return false;
            }
            int logical = 8 * bytes[at] + (bytes[at + 1] & 7);
            int physical = 8 * bytes[at + 3] + (bytes[at + 4] & 7);
            int from = Math.max(logical, 8 * d.address);
            int end = Math.min(logical + mapped, 8 * (d.address + d.length));
            dataBit = from - 8 * d.address;
            memoryBit = physical + from - logical;
            count = end - from;
            return count > 0 && lastByte() < MEMORY_SIZE;
        }

        int firstByte() {
            return memoryBit / 8;
        }

        int lastByte() {
            return (memoryBit + count - 1) / 8;
        }

        void putIntoData(int[] row, int[] data) {
            int before = 8 * firstByte();
            for (int i = 0; i < count; i++) {
                int from = memoryBit + i - before;
                int to = dataBit + i;
                int bit = (row[from / 8] >> (from % 8)) & 1;
                data[to / 8] = data[to / 8] & ~(1 << (to % 8)) | bit << (to % 8);
            }
        }

        void putIntoRow(int[] data, int[] row, int[] mask) {
            Arrays.fill(row, 0);
            Arrays.fill(mask, 0);
            int before = 8 * firstByte();
            for (int i = 0; i < count; i++) {
                int from = dataBit + i;
                int to = memoryBit + i - before;
                int bit = (data[from / 8] >> (from % 8)) & 1;
                row[to / 8] |= bit << (to % 8);
                mask[to / 8] |= 1 << (to % 8);
            }
        }
    }

    private static final class Station {
        final int outputs;
        final int inputs;
        final int[] sensors = new int[MOST_INPUTS];
        final int[] actuators = new int[MOST_OUTPUTS];
        final Memory memory = new Memory();
        private final MappedBits bits = new MappedBits();
        /** The data of a logical datagram as they came to this station. */
        private final int[] arrived = new int[MOST_DATA];
        private final int[] objects = new int[OBJECTS];

        Station(int outputs, int inputs) {
            this.outputs = outputs;
            this.inputs = inputs;
            memory.bytes[STATUS] = INIT;
            objects[0] = 1000 + 16 * outputs + inputs;
        }

        void perform(Datagram d) {
            switch (d.command) {
                case POSITION_READ:
                case POSITION_WRITE:
                    if (d.address == 0) {
                        performDirect(d);
                    }
                    d.address = (d.address + 1) & MOST_ADDRESS;
                    break;
                case FIXED_READ:
                case FIXED_WRITE:
                    if (d.address == memory.bytes[ADDRESS]) {
                        performDirect(d);
                    }
                    break;
                case ALL_READ:
                case ALL_WRITE:
                    performDirect(d);
                    d.address = (d.address + 1) & MOST_ADDRESS;
                    break;
                default:
                    performLogical(d);
                    break;
            }
        }

        private void performDirect(Datagram d) {
            int last = d.offset + d.length - 1;
            if (d.command == POSITION_WRITE || d.command == FIXED_WRITE || d.command == ALL_WRITE) {
                for (int i = 0; i < d.length; i++) {
                    memory.row[i] = d.bytes[i];
                    memory.mask[i] = BYTE;
                }
                if (memory.writeRow(d.offset, last)) {
                    d.counter++;
                }
            } else if (memory.readRow(d.offset, last)) {
                for (int i = 0; i < d.length; i++) {
                    int before = d.command == ALL_READ ? d.bytes[i] : 0;
                    d.bytes[i] = before | memory.row[i];
                }
                d.counter++;
            }
        }

        private void performLogical(Datagram d) {
            System.arraycopy(d.bytes, 0, arrived, 0, MOST_DATA);
            boolean read = false;
            boolean wrote = false;
            for (int m = 0; m < MAPS; m++) {
                // A map is what it is when its turn comes: an earlier one may have written to it.
                if (!bits.find(memory.bytes, m, d)) {
                    continue;
                }
                int type = memory.bytes[FIRST_MAP + m * MAP_SIZE + 5];
                boolean reads = (type & MAP_READS) != 0 && d.command != LOGICAL_WRITE;
                boolean writes = (type & MAP_WRITES) != 0 && d.command != LOGICAL_READ;
                if (reads && memory.readRow(bits.firstByte(), bits.lastByte())) {
                    bits.putIntoData(memory.row, d.bytes);
                    read = true;
                }
                if (writes) {
                    bits.putIntoRow(arrived, memory.row, memory.mask);
                    if (memory.writeRow(bits.firstByte(), bits.lastByte())) {
                        wrote = true;
                    }
                }
            }
            if (read) {
                d.counter++;
            }
            if (wrote) {
                d.counter += d.command == LOGICAL_EXCHANGE ? 2 : 1;
            }
        }

        void makeTick() {
            obeyControl();
            if (present() != INIT) {
                replyToMessage();
            }
            takeSensors();
            moveActuators();
            watch();
        }

        private int present() {
            return memory.bytes[STATUS] & ~ERROR;
        }

        private void become(int next, int code) {
            memory.bytes[STATUS] = code == 0 ? next : next | ERROR;
            memory.bytes[CODE] = code;
        }

        private void obeyControl() {
            if (!memory.controlWritten) {
                return;
            }
            memory.controlWritten = false;
            int control = memory.bytes[CONTROL];
            if (memory.bytes[CODE] != 0 && (control & ERROR) == 0) {
                return;
            }
            int wanted = control & 15;
            int code = objection(wanted);
            if (code != 0) {
                become(present(), code);
            } else {
                enter(wanted);
            }
        }

        private void enter(int wanted) {
            if (wanted == SAFE && present() == READY) {
                memory.outputsRenewed = false;
            }
            if (wanted == RUN && present() != RUN) {
                memory.age = 0;
            }
            become(wanted, 0);
        }

        /** The code of the error that a request makes; 0: none. */
        private int objection(int wanted) {
            if (wanted != INIT && wanted != READY && wanted != SAFE && wanted != RUN) {
                return NO_STATE;
            }
            if (wanted <= present()) {
                return 0;
            }
            // Each state is the double of the one below it.
            if (wanted > 2 * present()) {
                return MORE_THAN_ONE_STEP;
            }
            if (wanted == READY) {
                return hasMailbox() ? 0 : NO_MAILBOX;
            }
            if (wanted == RUN) {
                boolean fresh = memory.written[OUT] && memory.outputsRenewed;
                return outputs == 0 || fresh ? 0 : NO_FRESH_OUTPUTS;
            }
            if (!isSetUp(OUT, OUTPUTS, outputs)) {
                return WRONG_OUTPUTS;
            }
            return isSetUp(IN, INPUTS, inputs) ? 0 : WRONG_INPUTS;
        }

        private boolean hasMailbox() {
            return memory.isOpenAs(ASKED, INBOX, MESSAGE) && memory.isOpenAs(REPLIED, OUTBOX, MESSAGE);
        }

        private boolean isSetUp(int c, int mode, int length) {
            return length == 0 ? !memory.isOn(c) : memory.isOpenAs(c, mode, length);
        }

        private void replyToMessage() {
            if (!hasMailbox() || memory.bytes[FULL + ASKED] != 1 || memory.bytes[FULL + REPLIED] != 0) {
                return;
            }
            int[] message = memory.done[ASKED];
            int value = message[2] | message[3] << 8 | message[4] << 16 | message[5] << 24;
            doMessage(message[0], message[1], value, memory.done[REPLIED]);
            objects[MESSAGES_DONE]++;
            memory.bytes[FULL + ASKED] = 0;
            memory.bytes[FULL + REPLIED] = 1;
        }

        private void doMessage(int kind, int index, int value, int[] reply) {
            if (kind != SET_VALUE && kind != GET_VALUE) {
                writeMessage(reply, NOT_DONE, index, 1);
            } else if (index >= OBJECTS) {
                writeMessage(reply, NOT_DONE, index, 2);
            } else if (kind == GET_VALUE) {
                writeMessage(reply, GET_VALUE, index, objects[index]);
            } else if (index == 1 || index == 2) {
                objects[index] = value;
                writeMessage(reply, SET_VALUE, index, 0);
            } else {
                writeMessage(reply, NOT_DONE, index, 3);
            }
        }

        private void takeSensors() {
            if (present() >= SAFE && inputs > 0 && memory.isOpenAs(IN, INPUTS, inputs)) {
                System.arraycopy(sensors, 0, memory.done[IN], 0, inputs);
                memory.written[IN] = true;
            }
        }

        private void moveActuators() {
            if (present() != RUN) {
                Arrays.fill(actuators, 0);
            } else if (outputs > 0 && memory.isOpenAs(OUT, OUTPUTS, outputs) && memory.written[OUT]) {
                System.arraycopy(memory.done[OUT], 0, actuators, 0, outputs);
            }
        }

        private void watch() {
            memory.age++;
            int limit = memory.bytes[LIMIT];
            if (present() == RUN && outputs > 0 && limit != 0 && memory.age > limit) {
                become(SAFE, NO_FRESH_OUTPUTS);
                memory.outputsRenewed = false;
                Arrays.fill(actuators, 0);
            }
        }
    }
}
