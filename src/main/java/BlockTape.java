/**
 * Records on a volume of blocks with sums.
 *
 * A PLACE counts the bytes of DATA of all blocks through: place p is byte p % DATA_SIZE of the DATA of
 * block p / DATA_SIZE. A row never has a close() inside it, so its places follow one another.
 */
public final class BlockTape {
    public static final int NONE = -1;

    private static final int MAX_TAPE = 300;
    private static final int MAX_RECORDS = 200;
    private static final int MAX_STREAM = 255;
    private static final int MAX_INDEX = 65535;
    private static final int MAX_BLOCKS = 80;

    private static final int BLOCK_SIZE = 64;
    private static final int DATA_SIZE = 56;
    private static final int ALL_PLACES = MAX_BLOCKS * DATA_SIZE;

    private static final int USED_AT = 2;
    private static final int FIRST_AT = 3;
    private static final int SUM_AT = 4;
    private static final int DATA_AT = 8;
    private static final int NO_BEGINNING = 255;

    private static final int ROW_HEAD = 6;
    private static final int ROW_MARK = 90;

    private static final int CRC_POLYNOMIAL = 0xEDB88320;

    private final byte[] tape;
    private int tapeLength;

    private final byte[] volume;
    private int nextPlace;

    private final int[] rowPlace;
    private final int[] rowLength;
    private int records;

    // What was added to the one byte of a block that is spoilt, and which byte it is; 0 added: not spoilt.
    private final int[] spoiltBy;
    private final int[] spoiltAt;

    public BlockTape() {
        tape = new byte[MAX_TAPE];
        volume = new byte[MAX_BLOCKS * BLOCK_SIZE];
        rowPlace = new int[MAX_RECORDS];
        rowLength = new int[MAX_RECORDS];
        spoiltBy = new int[MAX_BLOCKS];
        spoiltAt = new int[MAX_BLOCKS];
        for (int block = 0; block < MAX_BLOCKS; block++) {
            volume[block * BLOCK_SIZE + FIRST_AT] = (byte) NO_BEGINNING;
        }
    }

    public int feed(int v, int n) {
        if (n < 1 || n > 4 || n > MAX_TAPE - tapeLength) {
            return NONE;
        }
        for (int i = 0; i < n; i++) {
            tape[tapeLength] = (byte) (v >>> (24 - 8 * i));
            tapeLength++;
        }
        return tapeLength;
    }

    public int put(int stream, int index) {
        if (stream < 0 || stream > MAX_STREAM || index < 0 || index > MAX_INDEX) {
            return NONE;
        }
        int length = ROW_HEAD + tapeLength;
        if (records >= MAX_RECORDS || length > placesLeft()) {
            return NONE;
        }
        noteBeginning();
        rowPlace[records] = nextPlace;
        rowLength[records] = length;
        appendRow(stream, index);
        tapeLength = 0;
        records++;
        return records - 1;
    }

    public boolean close() {
        int used = nextPlace % DATA_SIZE;
        if (used == 0) {
            return false;
        }
        writeBlock(nextPlace / DATA_SIZE, used);
        nextPlace += DATA_SIZE - used;
        return true;
    }

    public boolean spoil(int block, int at, int by) {
        if (!isWritten(block) || !isInBlock(at) || by < 1 || by > 255 || spoiltBy[block] != 0) {
            return false;
        }
        addToByte(block * BLOCK_SIZE + at, by);
        spoiltBy[block] = by;
        spoiltAt[block] = at;
        return true;
    }

    public boolean heal(int block) {
        if (!isWritten(block) || spoiltBy[block] == 0) {
            return false;
        }
        addToByte(block * BLOCK_SIZE + spoiltAt[block], -spoiltBy[block]);
        spoiltBy[block] = 0;
        return true;
    }

    public int byteOf(int block, int i) {
        if (!isWritten(block) || !isInBlock(i)) {
            return NONE;
        }
        return volume[block * BLOCK_SIZE + i] & 255;
    }

    public boolean good(int block) {
        // A CRC of 32 bits tells every change that lies within one byte, and a spoilt block has just such
        // a one: so its SUM is wrong, and that of any other block is right, without reckoning it again.
        return isWritten(block) && spoiltBy[block] == 0;
    }

    public int read(int i, int what) {
        int record = recordOfRead(i);
        if (record == NONE || what < 0) {
            return NONE;
        }
        switch (what) {
            case 0:
                return rowByte(record, 0);
            case 1:
                return rowByte(record, 1) << 8 | rowByte(record, 2);
            case 2:
                return rowLength[record] - ROW_HEAD;
            case 3:
                return rowPlace[record] / DATA_SIZE;
            default:
                return recordByte(record, what - 4);
        }
    }

    public int verify(int block) {
        for (int b = Math.max(block, 0); b < blocksWritten(); b++) {
            if (!good(b)) {
                return b;
            }
        }
        return NONE;
    }

    public int count(int what) {
        switch (what) {
            case 0:
                return tapeLength;
            case 1:
                return records;
            case 2:
                return blocksWritten();
            case 3:
                return nextPlace % DATA_SIZE;
            case 4:
                return recordsRead();
            case 5:
                return blocksNotGood();
            case 6:
                return placesLeft();
            default:
                return NONE;
        }
    }

    private int blocksWritten() {
        return nextPlace / DATA_SIZE;
    }

    private int placesLeft() {
        return ALL_PLACES - nextPlace;
    }

    private boolean isWritten(int block) {
        return block >= 0 && block < blocksWritten();
    }

    private static boolean isInBlock(int i) {
        return i >= 0 && i < BLOCK_SIZE;
    }

    private void addToByte(int at, int by) {
        volume[at] = (byte) (volume[at] + by);
    }

    private static int indexOfPlace(int place) {
        return place / DATA_SIZE * BLOCK_SIZE + DATA_AT + place % DATA_SIZE;
    }

    private void noteBeginning() {
        int at = nextPlace / DATA_SIZE * BLOCK_SIZE + FIRST_AT;
        if (volume[at] == (byte) NO_BEGINNING) {
            volume[at] = (byte) (nextPlace % DATA_SIZE);
        }
    }

    private void appendRow(int stream, int index) {
        append(stream);
        append(index >>> 8);
        append(index);
        append(tapeLength >>> 8);
        append(tapeLength);
        append(ROW_MARK);
        for (int i = 0; i < tapeLength; i++) {
            append(tape[i]);
        }
    }

    private void append(int value) {
        volume[indexOfPlace(nextPlace)] = (byte) value;
        nextPlace++;
        if (nextPlace % DATA_SIZE == 0) {
            writeBlock(nextPlace / DATA_SIZE - 1, DATA_SIZE);
        }
    }

    private void writeBlock(int block, int used) {
        int start = block * BLOCK_SIZE;
        volume[start] = (byte) (block >>> 8);
        volume[start + 1] = (byte) block;
        volume[start + USED_AT] = (byte) used;
        int sum = sumOfBlock(start);
        for (int i = 0; i < 4; i++) {
            volume[start + SUM_AT + i] = (byte) (sum >>> (24 - 8 * i));
        }
    }

    private int sumOfBlock(int start) {
        int crc = crcOver(0xFFFFFFFF, start, start + SUM_AT);
        return ~crcOver(crc, start + DATA_AT, start + BLOCK_SIZE);
    }

    private int crcOver(int begun, int from, int to) {
        int crc = begun;
        for (int i = from; i < to; i++) {
            crc ^= volume[i] & 255;
            for (int bit = 0; bit < 8; bit++) {
                crc = (crc & 1) != 0 ? crc >>> 1 ^ CRC_POLYNOMIAL : crc >>> 1;
            }
        }
        return crc;
    }

    // Beginning anew behind a bad block skips only rows that stand partly in it, and the block's own
    // beginning is always known: so a row is READ just if every block that it stands in is GOOD.
    private boolean isRead(int record) {
        int last = (rowPlace[record] + rowLength[record] - 1) / DATA_SIZE;
        for (int block = rowPlace[record] / DATA_SIZE; block <= last; block++) {
            if (!good(block)) {
                return false;
            }
        }
        return true;
    }

    private int recordOfRead(int i) {
        int seen = 0;
        for (int record = 0; record < records; record++) {
            if (isRead(record)) {
                if (seen == i) {
                    return record;
                }
                seen++;
            }
        }
        return NONE;
    }

    private int recordsRead() {
        int n = 0;
        for (int record = 0; record < records; record++) {
            if (isRead(record)) {
                n++;
            }
        }
        return n;
    }

    private int recordByte(int record, int k) {
        if (k < 0 || k >= rowLength[record] - ROW_HEAD) {
            return NONE;
        }
        return rowByte(record, ROW_HEAD + k);
    }

    private int rowByte(int record, int i) {
        return volume[indexOfPlace(rowPlace[record] + i)] & 255;
    }

    private int blocksNotGood() {
        int n = 0;
        for (int block = 0; block < blocksWritten(); block++) {
            if (!good(block)) {
                n++;
            }
        }
        return n;
    }
}
