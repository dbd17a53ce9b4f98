/** The sentences of the document's Terms that name a boundary case: each has a test of its own. */
public final class TermSentencesTest {
    private static final Due due = new Due();

    public static void main(String[] args) {
        due.sentence("Terms:", "THE TAPE has at most 300 bytes.",
            TermSentencesTest::theTape);
        due.sentence("Terms:", "RECORDS 0, 1, .. (200 at most)",
            TermSentencesTest::theRecords);
        due.sentence("Terms:", "THE VOLUME has BLOCKS 0, 1, .. (80 at most) of 64 bytes",
            TermSentencesTest::theVolume);
        due.sentence("Terms:", "(1; 255: none does)",
            TermSentencesTest::noneBegins);
        due.sentence("Terms:", "a block is WRITTEN when its DATA are full, or by close() with what it has; what comes "
            + "then begins in a new one. (What is not used is 0.)",
            TermSentencesTest::written);
        due.sentence("Terms:", "One that runs into a block that is not GOOD, or beyond the last one WRITTEN, is not.",
            TermSentencesTest::runsIntoOrBeyond);
        due.sentence("Terms:", "What throws or is refused changes nothing but the tape, which is empty behind each "
            + "put() that could be.",
            TermSentencesTest::refused);
        due.end();
    }

    private static void theTape() {
        BlockTape x = new BlockTape();
        for (int n = 1; n <= 300; n++) {
            due.is("feed " + n, x.feed(n << 24, 1), n);
        }
        due.is("one more", x.feed(-1, 1), -1);
        due.is("length", x.count(0), 300);
        due.is("put", x.put(1, 1), 0);
        x.close();
        due.is("length", x.read(0, 2), 300);
        for (int k = 0; k < 200; k += 9) {
            due.is("byte " + k, x.read(0, 4 + k), k + 1 & 255);
        }
        due.is("byte 299", x.read(0, 303), 300 & 255);
        due.is("byte 300", x.read(0, 304), -1);
        due.is("a tape anew", x.feed(5, 4), 4);
    }

    private static void theRecords() {
        BlockTape x = new BlockTape();
        for (int i = 0; i < 200; i++) {
            due.is("put " + i, x.put(i, 2 * i), i);
        }
        due.is("one more", x.put(0, 0), -1);
        due.is("records", x.count(1), 200);
        x.close();
        due.is("one more in a new block", x.put(0, 0), -1);
        due.is("records", x.count(1), 200);
        due.is("READ", x.count(4), 200);
        for (int i = 0; i < 200; i++) {
            due.is("index of " + i, x.read(i, 1), 2 * i);
        }
        due.is("number 200", x.read(200, 1), -1);
        due.is("close", x.close(), false);
        due.is("room", x.count(6), 4480 - 22 * 56);

        BlockTape spoilt = new BlockTape();
        Tapes.putEmpty(spoilt, 200);
        spoilt.close();
        for (int block = 0; block < 22; block++) {
            spoilt.spoil(block, 9, 1);
        }
        due.is("none is READ", spoilt.count(4), 0);
        due.is("spoilt ones count", spoilt.put(0, 0), -1);
    }

    private static void theVolume() {
        BlockTape x = new BlockTape();
        for (int block = 0; block < 80; block++) {
            due.is("put " + block, x.put(block, 5 * block), block);
            due.is("close " + block, x.close(), true);
            due.is("blocks", x.count(2), block + 1);
        }
        due.is("one more", x.put(0, 0), -1);
        due.is("close", x.close(), false);
        due.is("blocks", x.count(2), 80);
        due.is("room", x.count(6), 0);
        due.is("READ", x.count(4), 80);
        due.is("block 79 begins with", x.read(79, 1), 395);
        due.is("in block", x.read(79, 3), 79);

        BlockTape y = Tapes.blocks(80);
        for (int block = 0; block < 80; block++) {
            due.is("high number", y.byteOf(block, 0), 0);
            due.is("low number", y.byteOf(block, 1), block);
            due.is("byte 63 of " + block, y.byteOf(block, 63), 0);
            due.is("byte 64 of " + block, y.byteOf(block, 64), -1);
        }
        due.is("block 80", y.byteOf(80, 0), -1);

        BlockTape full = Tapes.blocksAndRow(75, 280);
        due.is("full without close", full.count(2), 80);
        due.is("DATA", full.count(3), 0);
        due.is("its last byte", full.byteOf(79, 63), 100 + 273 & 255);
        due.is("READ", full.count(4), 76);
    }

    private static void noneBegins() {
        for (int length = 6; length <= 175; length++) {
            BlockTape x = new BlockTape();
            Tapes.putBytes(x, 1, 1, 200, length - 6);
            x.put(2, 2);
            x.put(3, 3);
            x.close();
            int blocks = (length + 12 + 55) / 56;
            due.is("blocks at " + length, x.count(2), blocks);
            for (int block = 0; block < blocks; block++) {
                due.is("first in " + block + " at " + length, x.byteOf(block, 3), firstIn(block, length));
            }
        }
        BlockTape x = Tapes.throughBlocks();
        due.is("it begins at 0", x.byteOf(0, 3), 0);
        due.is("it runs through", x.byteOf(1, 3), 255);
        due.is("it ends with the block", x.byteOf(2, 3), 255);
        x.put(1, 1);
        x.close();
        due.is("in a new block", x.byteOf(3, 3), 0);
    }

    /** Rows begin at the places 0, length and length + 6. */
    private static int firstIn(int block, int length) {
        int[] places = {0, length, length + 6};
        for (int place : places) {
            if (place / 56 == block) {
                return place % 56;
            }
        }
        return 255;
    }

    private static void written() {
        for (int length = 50; length <= 62; length++) {
            BlockTape x = Tapes.blocksAndRow(0, length);
            due.is("blocks at " + length, x.count(2), length / 56);
            due.is("DATA at " + length, x.count(3), length % 56);
        }
        for (int length = 50; length <= 60; length++) {
            byClose(length);
        }
        BlockTape x = Tapes.blocksAndRow(0, 56);
        x.put(5, 6);
        due.is("behind a full block", x.count(3), 6);
        x.close();
        due.is("it begins in", x.read(1, 3), 1);
        due.is("its stream stands at", x.byteOf(1, 8), 5);
    }

    private static void byClose(int length) {
        BlockTape x = Tapes.blocksAndRow(0, length);
        due.is("close", x.close(), length != 56);
        int blocks = length > 56 ? 2 : 1;
        int used = length > 56 ? length - 56 : length;
        due.is("blocks at " + length, x.count(2), blocks);
        due.is("used at " + length, x.byteOf(blocks - 1, 2), used);
        due.is("the last that is used", x.byteOf(blocks - 1, 7 + used), 100 + length - 7 & 255);
        for (int i = 8 + used; i < 64; i++) {
            due.is("not used " + i, x.byteOf(blocks - 1, i), 0);
        }
        due.is("room", x.count(6), 4480 - 56 * blocks);
        x.put(5, 6);
        due.is("DATA of the new one", x.count(3), 6);
        due.is("the closed one stays", x.byteOf(blocks - 1, 63), length == 56 ? 100 + 49 : 0);
        x.close();
        due.is("it begins in", x.read(1, 3), blocks);
        due.is("first in it", x.byteOf(blocks, 3), 0);
        due.is("its stream stands at", x.byteOf(blocks, 8), 5);
    }

    private static void runsIntoOrBeyond() {
        for (int length = 50; length <= 118; length++) {
            BlockTape x = Tapes.blocksAndRow(0, length);
            due.is("beyond at " + length, x.count(4), length % 56 == 0 ? 1 : 0);
            due.is("length at " + length, x.read(0, 2), length % 56 == 0 ? length - 6 : -1);
            x.close();
            due.is("closed at " + length, x.count(4), 1);
            x.put(2, 2);
            x.close();
            due.is("both at " + length, x.count(4), 2);
            int last = (length - 1) / 56;
            for (int block = 0; block <= last; block++) {
                x.spoil(block, 63, 1);
                due.is("into block " + block + " at " + length, x.count(4), 1);
                due.is("the other", x.read(0, 0), 2);
                x.heal(block);
            }
            x.spoil(last + 1, 63, 1);
            due.is("not into block " + (last + 1) + " at " + length, x.count(4), 1);
            due.is("this one", x.read(0, 0), 200);
            due.is("the other is not", x.read(1, 0), -1);
        }
        byOneByte();
    }

    /** A row that has its first byte alone in block 0 and its last one alone in block 2. */
    private static void byOneByte() {
        BlockTape x = new BlockTape();
        Tapes.putBytes(x, 1, 1, 0, 49);
        Tapes.putBytes(x, 2, 2, 0, 52);
        due.is("DATA", x.count(3), 1);
        due.is("one byte beyond the last block", x.count(4), 1);
        Tapes.putBytes(x, 3, 3, 0, 49);
        due.is("all written", x.count(2), 3);
        due.is("all READ", x.count(4), 3);
        x.spoil(0, 10, 1);
        due.is("with its first byte", x.count(4), 1);
        due.is("the last is left", x.read(0, 0), 3);
        x.heal(0);
        x.spoil(2, 63, 1);
        due.is("with its last byte", x.count(4), 1);
        due.is("the first is left", x.read(0, 0), 1);
        x.heal(2);
        x.spoil(1, 30, 1);
        due.is("with the others", x.count(4), 2);
        due.is("the first is left", x.read(0, 0), 1);
        due.is("and the last", x.read(1, 0), 3);
    }

    private static void refused() {
        everythingRefused("new", x -> { });
        everythingRefused("a tape", x -> Tapes.feedBytes(x, 9, 5));
        everythingRefused("three blocks", x -> Tapes.threeBlocksAndSome(x));
        everythingRefused("three blocks, spoilt, and a tape", x -> {
            Tapes.threeBlocksAndSome(x);
            x.spoil(1, 50, 99);
            x.spoil(2, 2, 99);
            Tapes.feedBytes(x, 9, 5);
        });
        everythingRefused("full", x -> Tapes.blocksAndRow(x, 79, 56));
        for (int length = 0; length <= 300; length += 25) {
            BlockTape x = new BlockTape();
            due.is("put of " + length, Tapes.putBytes(x, 1, 1, 3, length), 0);
            due.is("the tape behind it", x.count(0), 0);
            due.is("the next", x.put(2, 2), 1);
            x.close();
            due.is("has no bytes", x.read(1, 2), 0);
        }
    }

    private static void everythingRefused(String name, Twins.Calls before) {
        for (int odd : new int[] {-1, 255 + 1 << 16, Integer.MIN_VALUE, Integer.MAX_VALUE}) {
            Twins.same(due, name, before, x -> refusals(x, odd));
        }
    }

    private static void refusals(BlockTape x, int odd) {
        due.is("feed", x.feed(1, odd), -1);
        due.is("put", x.put(odd, 0), -1);
        due.is("put", x.put(0, odd), -1);
        due.is("put", x.put(odd, odd), -1);
        due.is("spoil", x.spoil(odd, 0, 1), false);
        due.is("spoil", x.spoil(0, odd, 1), false);
        due.is("spoil", x.spoil(0, 0, odd), false);
        due.is("spoil", x.spoil(odd, odd, odd), false);
        due.is("heal", x.heal(odd), false);
        due.is("byteOf", x.byteOf(odd, 0), -1);
        due.is("byteOf", x.byteOf(0, odd), -1);
        due.is("byteOf", x.byteOf(odd, odd), -1);
        due.is("good", x.good(odd), false);
        due.is("read", x.read(odd, 0), -1);
        due.is("read", x.read(0, odd), -1);
        due.is("read", x.read(odd, odd), -1);
        due.is("count", x.count(odd), -1);
    }
}
