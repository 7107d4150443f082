import java.util.NoSuchElementException;

/**
 * Two ends of a connection that carries many streams: frames go over a wire of bytes that comes in
 * pieces and may be altered, header fields are squeezed by tables that both ends keep alike, windows
 * say how much may be sent, and each end knows what every stream is in.
 *
 * <p>All rows are made with the object and used again, so that a call makes nothing but the exception
 * that it may throw. What goes wrong while a frame is heard is an error number that is handed back
 * (0: none); exceptions are thrown by this outer class alone.
 */
public final class FrameStreams {
    private static final int TEXTS = 8;
    private static final int TEXT_ROOM = 6;
    private static final int LIST_ROOM = 5;
    private static final int WIRE_ROOM = 240;
    private static final int GREATEST_STREAM = 13;
    private static final int STREAMS = 7;
    private static final int GREATEST_BYTE = 255;

    private static final int HEAD = 4;
    private static final int GREATEST_LENGTH = 40;
    private static final int TYPE_DATA = 0;
    private static final int TYPE_HEADERS = 1;
    private static final int TYPE_RESET = 3;
    private static final int TYPE_SETTINGS = 4;
    private static final int TYPE_PING = 6;
    private static final int TYPE_AWAY = 7;
    private static final int TYPE_WINDOW = 8;
    private static final int FLAG_NONE = 0;
    private static final int FLAG_LAST = 1;
    private static final int FLAG_ANSWER = 1;

    private static final int STATE_IDLE = 0;
    private static final int STATE_OPEN = 1;
    private static final int STATE_SENT = 2;
    private static final int STATE_HEARD = 3;
    private static final int STATE_CLOSED = 4;

    private static final int NO_ERROR = 0;
    private static final int ERROR_PROTOCOL = 1;
    private static final int ERROR_FLOW = 3;
    private static final int ERROR_CLOSED = 5;
    private static final int ERROR_SIZE = 6;
    private static final int ERROR_REFUSED = 7;
    private static final int ERROR_COMPRESSION = 9;

    private static final int SETTING_TABLE = 0;
    private static final int SETTING_WINDOW = 1;
    private static final int SETTING_STREAMS = 2;
    private static final int[] FIRST_SETTINGS = {3, 16, 2};
    private static final int[] GREATEST_SETTINGS = {6, 60, 7};

    private static final int CONNECTION_WINDOW = 24;
    private static final int GREATEST_WINDOW = 250;
    private static final int GREATEST_DATA = 20;
    private static final int GREATEST_GROWTH = 60;
    private static final int GREATEST_COMING = 60;
    private static final int NO_AWAY = -1;

    private static final int WHAT_STATE = 0;
    private static final int WHAT_ROOM = 1;
    private static final int WHAT_DUE = 2;
    private static final int WHAT_CAME = 3;
    private static final int WHAT_SUM = 4;
    private static final int WHAT_FIELDS = 5;
    private static final int WHAT_KNOWN = 8;
    private static final int GREATEST_WHAT = 10;

    /** The texts as Letters packs them. */
    private final int[] texts = new int[TEXTS];
    private final End[] ends = new End[2];

    /** Makes an object in the state that the terms give. */
    public FrameStreams() {
        Wire toOpener = new Wire();
        Wire toOther = new Wire();
        ends[0] = new End(true, toOpener, toOther);
        ends[1] = new End(false, toOther, toOpener);
    }

    /** A text gets a letter: its length. */
    public int letter(int text, int letter)
            throws IllegalArgumentException, NoSuchElementException, UnsupportedOperationException, IllegalStateException {
        requireWithin(text, 0, TEXTS - 1);
        requireWithin(letter, Letters.FIRST, Letters.LAST);
        requireState(Letters.length(texts[text]) < TEXT_ROOM);
        texts[text] = Letters.append(texts[text], letter);
        return Letters.length(texts[text]);
    }

    /** A text is empty: its length before. */
    public int wipe(int text)
            throws IllegalArgumentException, NoSuchElementException, UnsupportedOperationException, IllegalStateException {
        requireWithin(text, 0, TEXTS - 1);
        int before = Letters.length(texts[text]);
        texts[text] = Letters.EMPTY;
        return before;
    }

    /** The end's list gets a field of two texts: how many it has. */
    public int field(int end, int name, int value)
            throws IllegalArgumentException, NoSuchElementException, UnsupportedOperationException, IllegalStateException {
        requireWithin(end, 0, 1);
        requireWithin(name, 0, TEXTS - 1);
        requireWithin(value, 0, TEXTS - 1);
        requireState(ends[end].isUp());
        requireState(texts[name] != Letters.EMPTY);
        Fields list = ends[end].list();
        requireState(list.count() < LIST_ROOM);
        list.add(texts[name], texts[value]);
        return list.count();
    }

    /** Sends the list as headers on a stream, or on a new one (0): the stream's number. */
    public int headers(int end, int stream, boolean last)
            throws IllegalArgumentException, NoSuchElementException, UnsupportedOperationException, IllegalStateException {
        requireWithin(end, 0, 1);
        requireStreamOrConnection(stream);
        End sender = ends[end];
        int number = stream == 0 ? sender.nextStream() : stream;
        requireState(number != 0);
        requireState(stream == 0 || sender.find(number).maySend());
        requireState(sender.prepareBlock());
        sender.sendHeaders(number, last);
        return number;
    }

    /** Sends n bytes v on a stream: the room to send that it has left. */
    public int data(int end, int stream, int n, int v, boolean last)
            throws IllegalArgumentException, NoSuchElementException, UnsupportedOperationException, IllegalStateException {
        requireWithin(end, 0, 1);
        requireStream(stream);
        requireWithin(n, 0, GREATEST_DATA);
        requireWithin(v, 0, GREATEST_BYTE);
        End sender = ends[end];
        requireState(sender.maySend(n));
        requireState(sender.find(stream).maySend());
        requireState(sender.find(stream).room() >= n && sender.find(0).room() >= n);
        sender.sendData(stream, n, v, last);
        return sender.find(stream).room();
    }

    /** Lets the other end send n bytes more, on a stream or on the connection (0): what is due then. */
    public int window(int end, int stream, int n)
            throws IllegalArgumentException, NoSuchElementException, UnsupportedOperationException, IllegalStateException {
        requireWithin(end, 0, 1);
        requireStreamOrConnection(stream);
        requireWithin(n, 1, GREATEST_GROWTH);
        End sender = ends[end];
        Stream target = sender.find(stream);
        requireState(sender.maySend(1));
        requireState(target.isLive());
        requireState(target.due() + n <= GREATEST_WINDOW);
        target.growDue(n);
        sender.sendByte(TYPE_WINDOW, FLAG_NONE, stream, n);
        return target.due();
    }

    /** Ends a stream at once: 0. */
    public int reset(int end, int stream, int code)
            throws IllegalArgumentException, NoSuchElementException, UnsupportedOperationException, IllegalStateException {
        requireWithin(end, 0, 1);
        requireStream(stream);
        requireWithin(code, 0, GREATEST_BYTE);
        End sender = ends[end];
        requireState(sender.maySend(1));
        requireState(sender.find(stream).isLive());
        sender.closeBy(stream, code);
        return 0;
    }

    /** Tells a setting of this end: the old one. */
    public int setting(int end, int which, int value)
            throws IllegalArgumentException, NoSuchElementException, UnsupportedOperationException, IllegalStateException {
        requireWithin(end, 0, 1);
        requireWithin(which, SETTING_TABLE, SETTING_STREAMS);
        requireWithin(value, 0, GREATEST_SETTINGS[which]);
        requireState(ends[end].maySend(2));
        return ends[end].changeOwn(which, value);
    }

    /** Asks for an answer with a byte: 0. */
    public int ping(int end, int v)
            throws IllegalArgumentException, NoSuchElementException, UnsupportedOperationException, IllegalStateException {
        requireWithin(end, 0, 1);
        requireWithin(v, 0, GREATEST_BYTE);
        requireState(ends[end].maySend(1));
        ends[end].sendByte(TYPE_PING, FLAG_NONE, 0, v);
        return 0;
    }

    /** The next n bytes on the way to the end come: how many frames were whole. */
    public int come(int end, int n)
            throws IllegalArgumentException, NoSuchElementException, UnsupportedOperationException, IllegalStateException {
        requireWithin(end, 0, 1);
        requireWithin(n, 1, GREATEST_COMING);
        End hearer = ends[end];
        requireState(hearer.isUp());
        int coming = Math.min(n, hearer.coming().count());
        requireThere(coming > 0);
        int whole = 0;
        for (int i = 0; i < coming; i++) {
            hearer.takeByte();
            if (hearer.hasWholeFrame()) {
                hearer.endFrame(hearer.hearFrame());
                whole++;
            }
            if (!hearer.isUp()) {
                throw new UnsupportedOperationException();
            }
        }
        return whole;
    }

    /** A byte on the way to the end is altered: what it is then. */
    public int alter(int end, int i, int bits)
            throws IllegalArgumentException, NoSuchElementException, UnsupportedOperationException, IllegalStateException {
        requireWithin(end, 0, 1);
        requireArgument(i >= 0);
        requireWithin(bits, 0, GREATEST_BYTE);
        Wire wire = ends[end].coming();
        requireThere(i < wire.count());
        return wire.flip(i, bits);
    }

    /** A number of a stream, or of the connection (0), at an end. */
    public int stream(int end, int stream, int what)
            throws IllegalArgumentException, NoSuchElementException, UnsupportedOperationException, IllegalStateException {
        requireWithin(end, 0, 1);
        requireStreamOrConnection(stream);
        requireWithin(what, WHAT_STATE, WHAT_FIELDS);
        boolean isTold = stream != 0 || what == WHAT_ROOM || what == WHAT_DUE;
        return isTold ? ends[end].find(stream).tell(what) : 0;
    }

    /** A letter of a field that was heard on a stream at an end. */
    public int heard(int end, int stream, int i, boolean value, int k)
            throws IllegalArgumentException, NoSuchElementException, UnsupportedOperationException, IllegalStateException {
        requireWithin(end, 0, 1);
        requireStream(stream);
        requireArgument(i >= 0);
        requireArgument(k >= 0);
        Fields fields = ends[end].find(stream).fields();
        requireThere(i < fields.count());
        int text = value ? fields.valueAt(i) : fields.nameAt(i);
        requireThere(k < Letters.length(text));
        return Letters.letterAt(text, k);
    }

    /** A number of an end. */
    public int end(int end, int what)
            throws IllegalArgumentException, NoSuchElementException, UnsupportedOperationException, IllegalStateException {
        requireWithin(end, 0, 1);
        requireWithin(what, 0, GREATEST_WHAT);
        return ends[end].tell(what);
    }

    private static void requireWithin(int number, int least, int greatest) {
        requireArgument(number >= least && number <= greatest);
    }

    private static void requireStream(int number) {
        requireArgument(isStream(number));
    }

    private static void requireStreamOrConnection(int number) {
        requireArgument(number == 0 || isStream(number));
    }

    private static void requireArgument(boolean holds) {
        if (!holds) {
            throw new IllegalArgumentException();
        }
    }

    private static void requireState(boolean holds) {
        if (!holds) {
            throw new IllegalStateException();
        }
    }

    private static void requireThere(boolean holds) {
        if (!holds) {
            throw new NoSuchElementException();
        }
    }

    private static boolean isStream(int number) {
        return number >= 1 && number <= GREATEST_STREAM && number % 2 == 1;
    }

    /**
     * A text of at most six letters as one int, five bits a letter, the first one lowest, 1 for a and
     * 0 behind the last one: so texts need no objects, and two are alike if their ints are.
     */
    private static final class Letters {
        private static final int FIRST = 97;
        private static final int LAST = 122;
        private static final int EMPTY = 0;
        private static final int BITS = 5;
        private static final int MASK = 31;

        static int length(int text) {
            int length = 0;
            while (length < TEXT_ROOM && text >> (BITS * length) != 0) {
                length++;
            }
            return length;
        }

        static int append(int text, int letter) {
            return text | (letter - FIRST + 1) << (BITS * length(text));
        }

        static int letterAt(int text, int k) {
            return (text >> (BITS * k) & MASK) + FIRST - 1;
        }

        static boolean isLetter(int value) {
            return value >= FIRST && value <= LAST;
        }
    }

    /** The bytes that are on their way in one direction, as a ring. */
    private static final class Wire {
        private final int[] bytes = new int[WIRE_ROOM];
        private int first = 0;
        private int count = 0;

        int count() {
            return count;
        }

        boolean hasRoom(int more) {
            return count + more <= WIRE_ROOM;
        }

        void put(int value) {
            if (count < WIRE_ROOM) {
                bytes[(first + count) % WIRE_ROOM] = value;
                count++;
            }
        }

        void putHead(int length, int type, int flags, int stream) {
            put(length);
            put(type);
            put(flags);
            put(stream);
        }

        int take() {
            if (count == 0) {
                return 0;
            }
            int value = bytes[first];
            first = (first + 1) % WIRE_ROOM;
            count--;
            return value;
        }

        int flip(int i, int bits) {
            if (i < 0 || i >= count) {
                return 0;
            }
            int at = (first + i) % WIRE_ROOM;
            bytes[at] ^= bits;
            return bytes[at];
        }
    }

    /** The frame that is coming, as far as it has come. */
    private static final class Frame {
        private final int[] bytes = new int[HEAD + GREATEST_LENGTH];
        private int count = 0;

        void add(int value) {
            if (count < bytes.length) {
                bytes[count] = value;
                count++;
            }
        }

        void clear() {
            count = 0;
        }

        boolean isTooLong() {
            return count > 0 && length() > GREATEST_LENGTH;
        }

        boolean isWhole() {
            return count >= HEAD && count == HEAD + length();
        }

        int length() {
            return bytes[0];
        }

        int type() {
            return bytes[1];
        }

        /** LAST or ANSWER, which are the same bit. */
        boolean isFlagged() {
            return (bytes[2] & 1) != 0;
        }

        int streamNumber() {
            return bytes[3];
        }

        /** Byte i behind the head. */
        int at(int i) {
            return i >= 0 && i < GREATEST_LENGTH ? bytes[HEAD + i] : 0;
        }

        int sum() {
            int sum = 0;
            for (int i = HEAD; i < count; i++) {
                sum += bytes[i];
            }
            return sum;
        }

        /** Whether the stream and the length are such as the type may have. */
        boolean isWellFormed() {
            int length = length();
            boolean isOfConnection = streamNumber() == 0;
            switch (type()) {
                case TYPE_DATA:
                case TYPE_HEADERS:
                    return isStream(streamNumber());
                case TYPE_RESET:
                    return isStream(streamNumber()) && length == 1;
                case TYPE_SETTINGS:
                    return isOfConnection && length == (isFlagged() ? 0 : 2);
                case TYPE_PING:
                    return isOfConnection && length == 1;
                case TYPE_AWAY:
                    return isOfConnection && length == 2;
                case TYPE_WINDOW:
                    return (isOfConnection || isStream(streamNumber())) && length == 1;
                default:
                    return true;
            }
        }
    }

    /** At most five fields in a row. */
    private static final class Fields {
        private final int[] names = new int[LIST_ROOM];
        private final int[] values = new int[LIST_ROOM];
        private int count = 0;

        int count() {
            return count;
        }

        void clear() {
            count = 0;
        }

        void add(int name, int value) {
            if (count < LIST_ROOM) {
                names[count] = name;
                values[count] = value;
                count++;
            }
        }

        int nameAt(int i) {
            return i >= 0 && i < count ? names[i] : Letters.EMPTY;
        }

        int valueAt(int i) {
            return i >= 0 && i < count ? values[i] : Letters.EMPTY;
        }

        void copyFrom(Fields other) {
            count = other.count;
            System.arraycopy(other.names, 0, names, 0, count);
            System.arraycopy(other.values, 0, values, 0, count);
        }
    }

    /** The fields with an index: the five that are always there, then those added, the newest first. */
    private static final class Table {
        private static final int FIXED = 5;
        /** m, m, p, s, s as Letters packs them. */
        private static final int[] FIXED_NAMES = {13, 13, 16, 19, 19};
        /** get, put, the empty one, ok, no as Letters packs them. */
        private static final int[] FIXED_VALUES = {
            7 + (5 << 5) + (20 << 10), 16 + (21 << 5) + (20 << 10), 0, 15 + (11 << 5), 14 + (15 << 5)
        };
        private static final int FIELD_COST = 6;
        private static final int FIRST_LIMIT = 30;
        /** A field's size is at least 7 and the greatest limit is 60, so more never fit. */
        private static final int MOST = 8;

        /** The added fields, the oldest first. */
        private final int[] names = new int[MOST];
        private final int[] values = new int[MOST];
        private final int[] sizes = new int[MOST];
        private int count = 0;
        private int total = 0;
        private int limit = FIRST_LIMIT;

        int count() {
            return count;
        }

        int limit() {
            return limit;
        }

        void changeLimit(int newLimit) {
            limit = newLimit;
            takeOffDownTo(limit);
        }

        void add(int name, int value) {
            int size = FIELD_COST + Letters.length(name) + Letters.length(value);
            takeOffDownTo(limit - size);
            if (size <= limit && count < MOST) {
                names[count] = name;
                values[count] = value;
                sizes[count] = size;
                count++;
                total += size;
            }
        }

        /** Takes off the oldest fields till the rest is of that size; all of them where it is below 0. */
        private void takeOffDownTo(int greatestTotal) {
            int off = 0;
            while (off < count && total > greatestTotal) {
                total -= sizes[off];
                off++;
            }
            count -= off;
            System.arraycopy(names, off, names, 0, count);
            System.arraycopy(values, off, values, 0, count);
            System.arraycopy(sizes, off, sizes, 0, count);
        }

        boolean has(int index) {
            return index >= 1 && index <= FIXED + count;
        }

        int nameAt(int index) {
            if (!has(index)) {
                return Letters.EMPTY;
            }
            return index <= FIXED ? FIXED_NAMES[index - 1] : names[FIXED + count - index];
        }

        int valueAt(int index) {
            if (!has(index)) {
                return Letters.EMPTY;
            }
            return index <= FIXED ? FIXED_VALUES[index - 1] : values[FIXED + count - index];
        }

        /** The least index of the field, 0 if it has none. */
        int indexOf(int name, int value) {
            for (int index = 1; index <= FIXED + count; index++) {
                if (nameAt(index) == name && valueAt(index) == value) {
                    return index;
                }
            }
            return 0;
        }

        /** The least index of a field with that name, 0 if there is none. */
        int indexOfName(int name) {
            for (int index = 1; index <= FIXED + count; index++) {
                if (nameAt(index) == name) {
                    return index;
                }
            }
            return 0;
        }

        void copyFrom(Table other) {
            count = other.count;
            total = other.total;
            limit = other.limit;
            System.arraycopy(other.names, 0, names, 0, count);
            System.arraycopy(other.values, 0, values, 0, count);
            System.arraycopy(other.sizes, 0, sizes, 0, count);
        }
    }

    /** What the first byte of a part of a block says. */
    private static final class Mark {
        private static final int INDEXED = 128;
        private static final int ADDED = 64;
        private static final int LIMIT = 32;
        private static final int GREATEST_LIMIT = 38;
        /** Names by an index below this one may be told without being added. */
        private static final int NOT_ADDED = 16;
        private static final int LIMIT_STEP = 10;
    }

    /** Makes blocks of a list, by the table to send by. */
    private static final class BlockWriter {
        /** One byte for the limit; each field a mark and two texts with their lengths. */
        private static final int MOST = 1 + LIST_ROOM * (1 + 2 * (1 + TEXT_ROOM));

        private final Table table = new Table();
        /** The block is written by this one, since the table may only change if it is sent. */
        private final Table trial = new Table();
        private final int[] bytes = new int[MOST];
        private int length = 0;

        Table table() {
            return table;
        }

        int length() {
            return length;
        }

        int at(int i) {
            return i >= 0 && i < length ? bytes[i] : 0;
        }

        void write(Fields list, int setting) {
            trial.copyFrom(table);
            length = 0;
            if (trial.limit() != setting * Mark.LIMIT_STEP) {
                trial.changeLimit(setting * Mark.LIMIT_STEP);
                put(Mark.LIMIT + setting);
            }
            for (int i = 0; i < list.count(); i++) {
                putField(list.nameAt(i), list.valueAt(i));
            }
        }

        /** The block is sent: what it did to the table holds. */
        void keep() {
            table.copyFrom(trial);
        }

        private void putField(int name, int value) {
            int index = trial.indexOf(name, value);
            if (index != 0) {
                put(Mark.INDEXED + index);
                return;
            }
            int nameIndex = trial.indexOfName(name);
            put(Mark.ADDED + nameIndex);
            if (nameIndex == 0) {
                putText(name);
            }
            putText(value);
            trial.add(name, value);
        }

        private void putText(int text) {
            int letters = Letters.length(text);
            put(letters);
            for (int k = 0; k < letters; k++) {
                put(Letters.letterAt(text, k));
            }
        }

        private void put(int value) {
            if (length < MOST) {
                bytes[length] = value;
                length++;
            }
        }
    }

    /** Makes fields of the block in a frame, by the table to hear by. */
    private static final class BlockReader {
        private final Frame frame;
        private final Table table = new Table();
        private final Fields fields = new Fields();
        private int position = 0;
        private int length = 0;
        private boolean isWrong = false;

        BlockReader(Frame frame) {
            this.frame = frame;
        }

        Table table() {
            return table;
        }

        /** The fields of the block that was read last. */
        Fields fields() {
            return fields;
        }

        /** Reads the frame's block: whether it was right. What stands before a wrong byte is done. */
        boolean read(int greatestSetting) {
            position = 0;
            length = frame.length();
            isWrong = false;
            fields.clear();
            readLimits(greatestSetting);
            for (int i = 0; i < LIST_ROOM && hasMore(); i++) {
                readField();
            }
            return !isWrong && position == length;
        }

        private boolean hasMore() {
            return !isWrong && position < length;
        }

        private void readLimits(int greatestSetting) {
            for (int i = 0; i < GREATEST_LENGTH && hasMore(); i++) {
                int mark = frame.at(position);
                if (mark < Mark.LIMIT || mark > Mark.GREATEST_LIMIT) {
                    return;
                }
                int setting = mark - Mark.LIMIT;
                if (setting > greatestSetting) {
                    isWrong = true;
                    return;
                }
                table.changeLimit(setting * Mark.LIMIT_STEP);
                position++;
            }
        }

        private void readField() {
            int mark = nextByte();
            if (mark >= Mark.INDEXED) {
                readIndexed(mark - Mark.INDEXED);
                return;
            }
            boolean isAdded = mark >= Mark.ADDED;
            if (!isAdded && mark >= Mark.NOT_ADDED) {
                isWrong = true;
                return;
            }
            int index = isAdded ? mark - Mark.ADDED : mark;
            // An index that there is none of gives the empty name, which is as wrong.
            int name = index == 0 ? readText() : table.nameAt(index);
            if (isWrong || name == Letters.EMPTY) {
                isWrong = true;
                return;
            }
            int value = readText();
            if (isWrong) {
                return;
            }
            fields.add(name, value);
            if (isAdded) {
                table.add(name, value);
            }
        }

        private void readIndexed(int index) {
            if (!table.has(index)) {
                isWrong = true;
                return;
            }
            fields.add(table.nameAt(index), table.valueAt(index));
        }

        private int readText() {
            int letters = nextByte();
            if (letters > TEXT_ROOM) {
                isWrong = true;
            }
            int text = Letters.EMPTY;
            for (int k = 0; k < letters && !isWrong; k++) {
                int letter = nextByte();
                if (Letters.isLetter(letter)) {
                    text = Letters.append(text, letter);
                } else {
                    isWrong = true;
                }
            }
            return text;
        }

        private int nextByte() {
            if (position >= length) {
                isWrong = true;
                return 0;
            }
            int value = frame.at(position);
            position++;
            return value;
        }
    }

    /** A stream as one end sees it; the connection is one that is always open. */
    private static final class Stream {
        private final Fields fields = new Fields();
        private int state = STATE_IDLE;
        private int room = 0;
        private int due = 0;
        private int came = 0;
        private int sum = 0;

        void open(int firstRoom, int firstDue) {
            state = STATE_OPEN;
            room = firstRoom;
            due = firstDue;
        }

        boolean isIdle() {
            return state == STATE_IDLE;
        }

        boolean isClosed() {
            return state == STATE_CLOSED;
        }

        boolean isLive() {
            return !isIdle() && !isClosed();
        }

        boolean maySend() {
            return state == STATE_OPEN || state == STATE_HEARD;
        }

        boolean mayHear() {
            return state == STATE_OPEN || state == STATE_SENT;
        }

        void close() {
            state = STATE_CLOSED;
        }

        void sendLast() {
            state = state == STATE_OPEN ? STATE_SENT : STATE_CLOSED;
        }

        void hearLast() {
            state = state == STATE_OPEN ? STATE_HEARD : STATE_CLOSED;
        }

        int room() {
            return room;
        }

        void growRoom(int n) {
            room += n;
        }

        int due() {
            return due;
        }

        void growDue(int n) {
            due += n;
        }

        void takeData(int length, int bytesSum) {
            due -= length;
            came += length;
            sum += bytesSum;
        }

        Fields fields() {
            return fields;
        }

        int tell(int what) {
            switch (what) {
                case WHAT_STATE:
                    return state;
                case WHAT_ROOM:
                    return room;
                case WHAT_DUE:
                    return due;
                case WHAT_CAME:
                    return came;
                case WHAT_SUM:
                    return sum;
                default:
                    return fields.count();
            }
        }
    }

    /** One end: what it sends, what it hears, and what it knows. */
    private static final class End {
        private final boolean isOpener;
        private final Wire in;
        private final Wire out;
        private final Frame frame;
        private final Fields list = new Fields();
        private final BlockWriter writer = new BlockWriter();
        private final BlockReader reader;
        /** The connection, then the streams 1, 3, .. 13. */
        private final Stream[] streams = new Stream[1 + STREAMS];
        private final int[] own = FIRST_SETTINGS.clone();
        private final int[] known = FIRST_SETTINGS.clone();
        private int opened = 0;
        private int greatestHeard = 0;
        private int answers = 0;
        private int away = NO_AWAY;
        private int shutBy = NO_ERROR;

        End(boolean isOpener, Wire in, Wire out) {
            this.isOpener = isOpener;
            this.in = in;
            this.out = out;
            Frame coming = new Frame();
            frame = coming;
            reader = new BlockReader(coming);
            for (int i = 0; i < streams.length; i++) {
                streams[i] = new Stream();
            }
            streams[0].open(CONNECTION_WINDOW, CONNECTION_WINDOW);
        }

        boolean isUp() {
            return shutBy == NO_ERROR;
        }

        /** Whether a frame of that length may be sent. */
        boolean maySend(int length) {
            return isUp() && out.hasRoom(HEAD + length);
        }

        Wire coming() {
            return in;
        }

        Fields list() {
            return list;
        }

        /** The stream of that number, the connection for any that is none. */
        Stream find(int number) {
            return isStream(number) ? streams[(number + 1) / 2] : streams[0];
        }

        int liveStreams() {
            int live = 0;
            for (int i = 1; i < streams.length; i++) {
                if (streams[i].isLive()) {
                    live++;
                }
            }
            return live;
        }

        /** The stream that this end would open next, 0 if it may open none. */
        int nextStream() {
            boolean mayOpen = isOpener && opened < STREAMS && away == NO_AWAY;
            return mayOpen && liveStreams() < known[SETTING_STREAMS] ? 2 * opened + 1 : 0;
        }

        /** Writes the list's block: whether it may be sent. */
        boolean prepareBlock() {
            writer.write(list, known[SETTING_TABLE]);
            return writer.length() <= GREATEST_LENGTH && maySend(writer.length());
        }

        /** Sends the block that was prepared. */
        void sendHeaders(int number, boolean isLast) {
            Stream stream = find(number);
            if (stream.isIdle()) {
                stream.open(known[SETTING_WINDOW], own[SETTING_WINDOW]);
                opened++;
            }
            out.putHead(writer.length(), TYPE_HEADERS, isLast ? FLAG_LAST : FLAG_NONE, number);
            for (int i = 0; i < writer.length(); i++) {
                out.put(writer.at(i));
            }
            writer.keep();
            list.clear();
            if (isLast) {
                stream.sendLast();
            }
        }

        void sendData(int number, int n, int v, boolean isLast) {
            Stream stream = find(number);
            stream.growRoom(-n);
            streams[0].growRoom(-n);
            out.putHead(n, TYPE_DATA, isLast ? FLAG_LAST : FLAG_NONE, number);
            for (int i = 0; i < n; i++) {
                out.put(v);
            }
            if (isLast) {
                stream.sendLast();
            }
        }

        /** Sends a frame of one byte: the error if there is no room for it. */
        int sendByte(int type, int flags, int number, int value) {
            if (!maySend(1)) {
                return ERROR_SIZE;
            }
            out.putHead(1, type, flags, number);
            out.put(value);
            return NO_ERROR;
        }

        /** Closes a stream and sends why: the error if there is no room for that. */
        int closeBy(int number, int code) {
            find(number).close();
            return sendByte(TYPE_RESET, FLAG_NONE, number, code);
        }

        /** Takes and tells a setting of its own: the old one. */
        int changeOwn(int which, int value) {
            if (which < 0 || which >= own.length) {
                return 0;
            }
            int old = own[which];
            own[which] = value;
            if (which == SETTING_WINDOW) {
                growDues(value - old);
            }
            sendPair(TYPE_SETTINGS, which, value);
            return old;
        }

        private void sendPair(int type, int one, int two) {
            if (maySend(2)) {
                out.putHead(2, type, FLAG_NONE, 0);
                out.put(one);
                out.put(two);
            }
        }

        private void growDues(int n) {
            for (int i = 1; i < streams.length; i++) {
                if (!streams[i].isIdle()) {
                    streams[i].growDue(n);
                }
            }
        }

        private void growRooms(int n) {
            for (int i = 1; i < streams.length; i++) {
                if (!streams[i].isIdle()) {
                    streams[i].growRoom(n);
                }
            }
        }

        /** The next byte comes; a length too great is an error before the frame is whole. */
        void takeByte() {
            frame.add(in.take());
            if (frame.isTooLong()) {
                shut(ERROR_SIZE);
            }
        }

        boolean hasWholeFrame() {
            return frame.isWhole();
        }

        /** The frame was heard with that error, or with none: the next one may come. */
        void endFrame(int error) {
            frame.clear();
            if (error != NO_ERROR) {
                shut(error);
            }
        }

        private void shut(int error) {
            sendPair(TYPE_AWAY, greatestHeard, error);
            shutBy = error;
        }

        /** Hears the whole frame: the error that it is. */
        int hearFrame() {
            if (!frame.isWellFormed()) {
                return ERROR_PROTOCOL;
            }
            switch (frame.type()) {
                case TYPE_DATA:
                    return hearData();
                case TYPE_HEADERS:
                    return hearHeaders();
                case TYPE_RESET:
                    return hearReset();
                case TYPE_SETTINGS:
                    return hearSettings();
                case TYPE_PING:
                    return hearPing();
                case TYPE_AWAY:
                    away = 256 * frame.at(0) + frame.at(1);
                    return NO_ERROR;
                case TYPE_WINDOW:
                    return hearWindow();
                default:
                    return NO_ERROR;
            }
        }

        private int hearHeaders() {
            // The block comes first whatever the stream is in, or the tables would not stay alike.
            if (!reader.read(own[SETTING_TABLE])) {
                return ERROR_COMPRESSION;
            }
            int number = frame.streamNumber();
            Stream stream = find(number);
            boolean isNew = stream.isIdle();
            if (isNew && (isOpener || number <= greatestHeard)) {
                return ERROR_PROTOCOL;
            }
            greatestHeard = Math.max(greatestHeard, number);
            if (isNew) {
                boolean isFull = liveStreams() >= own[SETTING_STREAMS];
                stream.open(known[SETTING_WINDOW], own[SETTING_WINDOW]);
                if (isFull) {
                    return closeBy(number, ERROR_REFUSED);
                }
            }
            if (!stream.mayHear()) {
                return closeBy(number, ERROR_CLOSED);
            }
            stream.fields().copyFrom(reader.fields());
            if (frame.isFlagged()) {
                stream.hearLast();
            }
            return NO_ERROR;
        }

        private int hearData() {
            int number = frame.streamNumber();
            int length = frame.length();
            Stream stream = find(number);
            if (stream.isIdle()) {
                return ERROR_PROTOCOL;
            }
            if (length > streams[0].due()) {
                return ERROR_FLOW;
            }
            streams[0].growDue(-length);
            if (!stream.mayHear()) {
                return closeBy(number, ERROR_CLOSED);
            }
            if (length > stream.due()) {
                return closeBy(number, ERROR_FLOW);
            }
            stream.takeData(length, frame.sum());
            if (frame.isFlagged()) {
                stream.hearLast();
            }
            return NO_ERROR;
        }

        private int hearReset() {
            Stream stream = find(frame.streamNumber());
            if (stream.isIdle()) {
                return ERROR_PROTOCOL;
            }
            stream.close();
            return NO_ERROR;
        }

        private int hearSettings() {
            if (frame.isFlagged()) {
                answers++;
                return NO_ERROR;
            }
            int which = frame.at(0);
            int value = frame.at(1);
            if (which >= known.length || value > GREATEST_SETTINGS[which]) {
                return ERROR_PROTOCOL;
            }
            if (which == SETTING_WINDOW) {
                growRooms(value - known[which]);
            }
            known[which] = value;
            if (!maySend(0)) {
                return ERROR_SIZE;
            }
            out.putHead(0, TYPE_SETTINGS, FLAG_ANSWER, 0);
            return NO_ERROR;
        }

        private int hearPing() {
            if (frame.isFlagged()) {
                answers++;
                return NO_ERROR;
            }
            return sendByte(TYPE_PING, FLAG_ANSWER, 0, frame.at(0));
        }

        private int hearWindow() {
            int growth = frame.at(0);
            Stream target = find(frame.streamNumber());
            if (growth == 0 || target.isIdle()) {
                return ERROR_PROTOCOL;
            }
            if (target.isClosed()) {
                return NO_ERROR;
            }
            if (target.room() + growth > GREATEST_WINDOW) {
                return ERROR_FLOW;
            }
            target.growRoom(growth);
            return NO_ERROR;
        }

        int tell(int what) {
            switch (what) {
                case 0:
                    return shutBy;
                case 1:
                    return in.count();
                case 2:
                    return writer.table().count();
                case 3:
                    return reader.table().count();
                case 4:
                    return answers;
                case 5:
                    return liveStreams();
                case 6:
                    return list.count();
                case 7:
                    return away;
                default:
                    return tellKnown(what - WHAT_KNOWN);
            }
        }

        private int tellKnown(int which) {
            return which >= 0 && which < known.length ? known[which] : 0;
        }
    }
}
