/**
 * The sentences of the document that name no boundary case, from its first line on (those that name one are
 * in PromiseSentencesTest and TermSentencesTest): each has a test of its own.
 */
public final class WholeDocumentTest {
    private static final Due due = new Due();

    public static void main(String[] args) {
        whatItIs();
        blocksAndRows();
        readingAndSpoiling();
        promises();
        due.end();
    }

    private static void whatItIs() {
        due.sentence("What it is:", "records of any length run on from block to block",
            WholeDocumentTest::anyLength);
        due.sentence("What it is:", "whatever blocks are spoilt, the records that lie in good ones are read again, "
            + "from the next beginning on.",
            WholeDocumentTest::whateverIsSpoilt);
        due.sentence("What it is:", "An object is used for at most 512 calls after it has been made",
            WholeDocumentTest::all512Calls);
    }

    private static void blocksAndRows() {
        due.sentence("Terms:", "its number (2 bytes, the higher first, as all numbers here), how many of its DATA are "
            + "used (1), where among these the first record that begins in it begins",
            WholeDocumentTest::headOfABlock);
        due.sentence("Terms:", "The SUM is the CRC of ZIP (polynomial EDB88320 hexadecimal, begun with and turned at "
            + "the end by FFFFFFFF) of all other 60 bytes in order.",
            WholeDocumentTest::theSum);
        due.sentence("Terms:", "A record's ROW: its stream (1), index (2), length (2), 90, its bytes.",
            WholeDocumentTest::theRow);
        due.sentence("Terms:", "ROWS stand one behind the other in the DATA of blocks as they come",
            WholeDocumentTest::rowsAsTheyCome);
    }

    private static void readingAndSpoiling() {
        due.sentence("Terms:", "a block is GOOD if its SUM is right and its number its own.",
            WholeDocumentTest::goodBySum);
        due.sentence("Terms:", "behind one that is not GOOD, reading begins at the first record that begins in the next "
            + "GOOD block that has one",
            WholeDocumentTest::beginningAnew);
        due.sentence("Terms:", "a record is READ if all of its row stands in the used DATA of GOOD blocks that follow "
            + "one another.",
            WholeDocumentTest::overClosedBlocks);
        due.sentence("Terms:", "a block's byte is never spoilt twice, nor a second one of it (so its SUM is wrong).",
            WholeDocumentTest::spoiltSums);
        due.sentence("Terms:", "HEALING brings all bytes of a block back.",
            WholeDocumentTest::healedBytes);
        due.sentence("Terms:", "NONE = -1: There is none.",
            () -> due.is("NONE", BlockTape.NONE, -1));
    }

    private static void promises() {
        due.sentence("Promise 3:", "The tape is a record: its number.",
            WholeDocumentTest::theTapeIsARecord);
        due.sentence("Promise 9:", "Of what is READ now, number i, in order: what 0: stream, 1: index, 2: length, 3: the "
            + "block in which it begins, 4 + k: byte k.",
            WholeDocumentTest::readInOrder);
        due.sentence("Promise 11:", "what 0: length of the tape, 1: records, 2: blocks WRITTEN, 3: DATA of the block that "
            + "is not yet, 4: records that are READ now, 5: blocks that are not GOOD, 6: how many bytes can be put as "
            + "rows yet.",
            WholeDocumentTest::counts);
    }

    /** Each length, begun at another place of a block. */
    private static void anyLength() {
        for (int length = 0; length <= 300; length++) {
            BlockTape x = new BlockTape();
            int before = length % 57;
            Tapes.putBytes(x, 1, 1, 0, before);
            due.is("put of " + length, Tapes.putBytes(x, 2, 2, length, length), 1);
            x.close();
            due.is("length of " + length, x.read(1, 2), length);
            due.is("begins", x.read(1, 3), (before + 6) / 56);
            for (int k = 0; k < length; k++) {
                due.is("byte " + k + " of " + length, x.read(1, 4 + k), length + k & 255);
            }
            due.is("no byte more", x.read(1, 4 + length), -1);
        }
    }

    /** Eight blocks, each way to spoil some of them: {first block, last block} of each record. */
    private static void whateverIsSpoilt() {
        int[] lengths = {20, 0, 60, 10, 130, 0, 3, 50, 90};
        int[][] blocks = new int[lengths.length][];
        int place = 0;
        for (int i = 0; i < lengths.length; i++) {
            blocks[i] = new int[] {place / 56, (place + lengths[i] + 5) / 56};
            place += lengths[i] + 6;
        }
        due.is("blocks", (place + 55) / 56, 8);
        for (int spoilt = 0; spoilt < 256; spoilt++) {
            BlockTape x = new BlockTape();
            for (int i = 0; i < lengths.length; i++) {
                Tapes.putBytes(x, i, 100 * i, 16 * i, lengths[i]);
            }
            x.close();
            spoilSome(x, spoilt);
            int seen = 0;
            for (int i = 0; i < lengths.length; i++) {
                if (allGood(spoilt, blocks[i][0], blocks[i][1])) {
                    due.is("stream of " + seen + ", spoilt " + spoilt, x.read(seen, 0), i);
                    due.is("index of " + seen + ", spoilt " + spoilt, x.read(seen, 1), 100 * i);
                    due.is("block of " + seen + ", spoilt " + spoilt, x.read(seen, 3), blocks[i][0]);
                    due.is("last byte of " + seen, x.read(seen, 3 + lengths[i]),
                        lengths[i] == 0 ? blocks[i][0] : 16 * i + lengths[i] - 1 & 255);
                    seen++;
                }
            }
            due.is("READ, spoilt " + spoilt, x.count(4), seen);
            due.is("one more, spoilt " + spoilt, x.read(seen, 0), -1);
        }
    }

    private static void spoilSome(BlockTape x, int which) {
        for (int block = 0; block < 8; block++) {
            if ((which >> block & 1) != 0) {
                due.is("spoil " + block, x.spoil(block, 7 * block + 3, 1 + which % 255), true);
            }
        }
    }

    private static boolean allGood(int spoilt, int first, int last) {
        for (int block = first; block <= last; block++) {
            if ((spoilt >> block & 1) != 0) {
                return false;
            }
        }
        return true;
    }

    private static void all512Calls() {
        BlockTape x = new BlockTape();
        for (int call = 1; call <= 300; call++) {
            due.is("call " + call, x.feed(call << 24, 1), call);
        }
        due.is("call 301", x.put(9, 10), 0);
        for (int call = 302; call <= 509; call++) {
            due.is("call " + call, x.put(1, call), call <= 500 ? call - 301 : -1);
        }
        due.is("call 510", x.close(), true);
        due.is("call 511", x.read(199, 1), 500);
        due.is("call 512", x.read(0, 303), 300 & 255);
    }

    private static void headOfABlock() {
        BlockTape x = new BlockTape();
        int[] lengths = {30, 60, 0, 160, 20};
        for (int i = 0; i < lengths.length; i++) {
            Tapes.putBytes(x, i, i, 0, lengths[i]);
        }
        x.close();
        // The rows begin at the places 0, 36, 102, 108 and 274; the last of 300 DATA is at place 299.
        int[][] want = {{0, 0, 56, 0}, {0, 1, 56, 46}, {0, 2, 56, 255}, {0, 3, 56, 255}, {0, 4, 56, 50}, {0, 5, 20, 255}};
        due.is("blocks", x.count(2), want.length);
        for (int block = 0; block < want.length; block++) {
            for (int i = 0; i < 4; i++) {
                due.is("byte " + i + " of " + block, x.byteOf(block, i), want[block][i]);
            }
        }
    }

    private static void theSum() {
        BlockTape one = new BlockTape();
        one.feed('a' << 24 | 'b' << 16 | 'c' << 8 | 'd', 4);
        one.put(1, 2);
        one.close();
        due.is("the sum that zlib reckons", Sums.stored(one, 0), 0x2B5972C0L);
        for (int length = 6; length <= 300; length += 7) {
            BlockTape x = Tapes.blocksAndRow(0, length);
            x.close();
            int last = x.count(2) - 1;
            due.is("first sum at " + length, Sums.stored(x, 0), Sums.reckoned(x, 0));
            due.is("last sum at " + length, Sums.stored(x, last), Sums.reckoned(x, last));
        }
        for (int block = 0; block < 80; block++) {
            BlockTape x = Tapes.blocks(block + 1);
            due.is("sum of " + block, Sums.stored(x, block), Sums.reckoned(x, block));
        }
    }

    private static void theRow() {
        BlockTape x = new BlockTape();
        Tapes.putBytes(x, 0xF1, 0xABCD, 33, 300);
        x.put(255, 65535);
        x.close();
        int[] head = {0xF1, 0xAB, 0xCD, 300 / 256, 300 % 256, 90};
        for (int i = 0; i < 306; i++) {
            int want = i < 6 ? head[i] : 33 + i - 6 & 255;
            due.is("byte " + i, x.byteOf(i / 56, 8 + i % 56), want);
        }
        int[] next = {255, 255, 255, 0, 0, 90};
        for (int i = 0; i < 6; i++) {
            due.is("byte " + i + " of the next", x.byteOf(5, 8 + 306 - 280 + i), next[i]);
        }
    }

    private static void rowsAsTheyCome() {
        BlockTape x = new BlockTape();
        for (int i = 0; i < 40; i++) {
            x.feed(i << 24, 1);
            x.put(200 - i, i);
        }
        due.is("blocks", x.count(2), 5);
        due.is("DATA", x.count(3), 0);
        for (int i = 0; i < 40; i++) {
            int[] row = {200 - i, 0, i, 0, 1, 90, i};
            for (int k = 0; k < 7; k++) {
                int place = 7 * i + k;
                due.is("place " + place, x.byteOf(place / 56, 8 + place % 56), row[k]);
            }
        }
    }

    private static boolean soundBySum(BlockTape x, int block) {
        return Sums.stored(x, block) == Sums.reckoned(x, block)
            && x.byteOf(block, 0) * 256 + x.byteOf(block, 1) == block;
    }

    private static void goodBySum() {
        for (int at = 0; at < 64; at++) {
            BlockTape x = Tapes.spread();
            due.is("good as its SUM", x.good(1), soundBySum(x, 1));
            due.is("good", x.good(1), true);
            x.spoil(1, at, 255 - at);
            due.is("spoilt as its SUM at " + at, x.good(1), soundBySum(x, 1));
            due.is("the next as its SUM", x.good(2), soundBySum(x, 2));
            x.heal(1);
            due.is("healed as its SUM at " + at, x.good(1), soundBySum(x, 1));
        }
    }

    private static void beginningAnew() {
        BlockTape x = new BlockTape();
        Tapes.putBytes(x, 1, 1, 0, 300);
        Tapes.putBytes(x, 2, 2, 0, 100);
        Tapes.putBytes(x, 3, 3, 0, 9);
        x.close();
        // Row 1 is in blocks 0 .. 5, row 2 in 5 .. 7, row 3 in 7.
        due.is("all", x.count(4), 3);
        for (int block = 0; block <= 4; block++) {
            x.spoil(block, 40, 1);
            due.is("behind block " + block, x.count(4), 2);
            due.is("reading begins with", x.read(0, 0), 2);
            due.is("in block", x.read(0, 3), 5);
            x.heal(block);
        }
        x.spoil(5, 60, 1);
        due.is("behind block 5", x.count(4), 1);
        due.is("reading begins with", x.read(0, 0), 3);
        due.is("in block", x.read(0, 3), 7);
        x.spoil(7, 0, 1);
        due.is("no GOOD block has one", x.count(4), 0);
    }

    /** What a closed block does not use is no part of the row that comes then. */
    private static void overClosedBlocks() {
        BlockTape x = new BlockTape();
        for (int i = 0; i < 6; i++) {
            Tapes.putBytes(x, i, i, 10 * i, 25 * i);
            x.close();
        }
        due.is("all", x.count(4), 6);
        for (int i = 0; i < 6; i++) {
            due.is("stream " + i, x.read(i, 0), i);
            due.is("length " + i, x.read(i, 2), 25 * i);
            for (int k = 0; k < 25 * i; k += 6) {
                due.is("byte " + k + " of " + i, x.read(i, 4 + k), 10 * i + k & 255);
            }
        }
    }

    private static void spoiltSums() {
        for (int at = 0; at < 64; at++) {
            for (int by = 1; by <= 255; by++) {
                BlockTape x = new BlockTape();
                x.feed(at << 24 | by << 8 | 7, 4);
                x.put(by, at);
                x.close();
                x.spoil(0, at, by);
                due.is("a second one at " + at, x.spoil(0, 63 - at, by), false);
                due.is("the same at " + at, x.spoil(0, at, 256 - by), false);
                due.is("SUM at " + at + " by " + by, soundBySum(x, 0), false);
                due.is("good at " + at + " by " + by, x.good(0), false);
            }
        }
    }

    private static void healedBytes() {
        for (int at = 0; at < 64; at++) {
            BlockTape x = Tapes.spread();
            BlockTape whole = Tapes.spread();
            x.spoil(2, at, 100 + at);
            x.heal(2);
            for (int i = 0; i < 64; i++) {
                due.is("byte " + i + " healed at " + at, x.byteOf(2, i), whole.byteOf(2, i));
            }
        }
    }

    private static void theTapeIsARecord() {
        BlockTape x = new BlockTape();
        int[] lengths = {5, 0, 300, 1, 56};
        for (int i = 0; i < lengths.length; i++) {
            due.is("number", Tapes.putBytes(x, 255 - i, 65535 - i, i, lengths[i]), i);
        }
        x.close();
        x.spoil(0, 8, 1);
        due.is("the number counts what is not READ too", x.put(0, 0), lengths.length);
    }

    private static void readInOrder() {
        BlockTape x = Tapes.spread();
        x.close();
        int[][] want = {{10, 1000, 4, 0, 1}, {11, 1001, 104, 0, 50}, {12, 1002, 2, 2, 90}, {13, 1003, 90, 2, 160},
            {14, 1004, 4, 4, 7}};
        for (int i = 0; i < want.length; i++) {
            for (int what = 0; what < 5; what++) {
                due.is("read " + i + " " + what, x.read(i, what), want[i][what]);
            }
        }
        x.spoil(1, 1, 1);
        for (int i = 1; i < 4; i++) {
            for (int what = 0; what < 5; what++) {
                due.is("now read " + i + " " + what, x.read(i, what), want[i + 1][what]);
            }
        }
        due.is("no more now", x.read(4, 0), -1);
    }

    private static void counts() {
        BlockTape x = new BlockTape();
        Tapes.threeBlocksAndSome(x);
        x.spoil(2, 2, 2);
        x.feed(0, 3);
        int[] want = {3, 3, 3, 10, 1, 1, 4480 - 178};
        for (int what = 0; what < want.length; what++) {
            due.is("count " + what, x.count(what), want[what]);
        }
        BlockTape full = Tapes.blocksAndRow(74, 0);
        Tapes.feedBytes(full, 0, 300);
        due.is("room for 306 and 30", full.count(6), 336);
        due.is("the row of 306", full.put(0, 0), 74);
        due.is("room for 30", full.count(6), 30);
        Tapes.feedBytes(full, 0, 25);
        due.is("a row of 31", full.put(0, 0), -1);
        due.is("room for 30 yet", full.count(6), 30);
        BlockTape other = Tapes.blocksAndRow(79, 26);
        due.is("room for 30", other.count(6), 30);
        due.is("a row of 30", Tapes.putBytes(other, 0, 0, 0, 24), 80);
        due.is("no room", other.count(6), 0);
        due.is("all READ", other.count(4), 81);
    }
}
