/** Runs of calls that several tests begin with. */
final class Tapes {
    static final int[] ODD_NUMBERS = {
        Integer.MIN_VALUE, Integer.MIN_VALUE + 1, Integer.MIN_VALUE + 4, -65536, -256, -64, -4, -2, -1,
        Integer.MAX_VALUE - 4, Integer.MAX_VALUE - 1, Integer.MAX_VALUE, 1 << 26, 1 << 25, 1 << 30, 70000};

    private Tapes() { }

    /** Feeds the bytes from, from + 1, .. (each & 255), as few calls as it can. */
    static void feedBytes(BlockTape x, int from, int length) {
        for (int i = 0; i < length; i += 4) {
            int v = 0;
            for (int k = 0; k < 4; k++) {
                v = v << 8 | (from + i + k & 255);
            }
            x.feed(v, Math.min(4, length - i));
        }
    }

    static int putBytes(BlockTape x, int stream, int index, int from, int length) {
        feedBytes(x, from, length);
        return x.put(stream, index);
    }

    /** A volume of n blocks, each with one row of no bytes. */
    static BlockTape blocks(int n) {
        return blocksAndRow(n, 0);
    }

    /**
     * Four blocks WRITTEN and 10 DATA more: record 0 in block 0, record 1 from 0 through 1 into 2,
     * record 2 in 2, record 3 from 2 to the very end of 3, record 4 in the open block.
     */
    static BlockTape spread() {
        BlockTape x = new BlockTape();
        putBytes(x, 10, 1000, 1, 4);
        putBytes(x, 11, 1001, 50, 104);
        putBytes(x, 12, 1002, 90, 2);
        putBytes(x, 13, 1003, 160, 90);
        putBytes(x, 14, 1004, 7, 4);
        return x;
    }

    static void putEmpty(BlockTape x, int n) {
        for (int i = 0; i < n; i++) {
            x.put(i % 256, i);
        }
    }

    /** A volume of n blocks, each with one row of no bytes, and behind them a row of data bytes (0: none). */
    static void blocksAndRow(BlockTape x, int n, int data) {
        for (int i = 0; i < n; i++) {
            x.put(i, i);
            x.close();
        }
        if (data > 0) {
            putBytes(x, 200, 20000, 100, data - 6);
        }
    }

    static BlockTape blocksAndRow(int n, int data) {
        BlockTape x = new BlockTape();
        blocksAndRow(x, n, data);
        return x;
    }

    /** Three blocks WRITTEN, record 0 fills block 0, record 1 the next two, and 10 DATA of record 2. */
    static void threeBlocksAndSome(BlockTape x) {
        putBytes(x, 20, 2000, 0, 50);
        putBytes(x, 21, 2001, 56, 106);
        putBytes(x, 22, 2002, 9, 4);
    }

    /** One row that fills three blocks: no record begins in the second and the third. */
    static BlockTape throughBlocks() {
        BlockTape x = new BlockTape();
        putBytes(x, 30, 3000, 77, 162);
        return x;
    }
}
