/** The sentences of promises 1 to 11 that name a boundary case: each has a test of its own. */
public final class PromiseSentencesTest {
    private static final int MIN = Integer.MIN_VALUE;
    private static final int MAX = Integer.MAX_VALUE;
    private static final Due due = new Due();

    public static void main(String[] args) {
        due.sentence("Promise 1:", "An empty volume and tape.",
            PromiseSentencesTest::promise1);
        due.sentence("Promise 2:", "Four bytes of v, the highest first, n of them (1 .. 4, from the highest on), "
            + "come to the tape: how long it is; NONE, changing nothing, if n is another one or it would be longer "
            + "than 300.",
            PromiseSentencesTest::promise2);
        due.sentence("Promise 3:", "NONE, and the tape stays, if there is no such stream or index, there are 200 "
            + "records, or no room for all of its row.",
            PromiseSentencesTest::promise3);
        due.sentence("Promise 4:", "The block that has some DATA is WRITTEN: true; false if there is none such.",
            PromiseSentencesTest::promise4);
        due.sentence("Promise 5:", "it becomes another one (by 1 .. 255 added, going round): true; false if there is "
            + "no such block or byte, by is another one, or it is spoilt already.",
            PromiseSentencesTest::promise5);
        due.sentence("Promise 6:", "A block that is spoilt is HEALED: true; false if it is not.",
            PromiseSentencesTest::promise6);
        due.sentence("Promise 7:", "Byte i of a block that was WRITTEN, as it is; NONE if there is none such.",
            PromiseSentencesTest::promise7);
        due.sentence("Promise 8:", "Whether a block was WRITTEN and is GOOD.",
            PromiseSentencesTest::promise8);
        due.sentence("Promise 9:", "NONE if there is none such.",
            PromiseSentencesTest::promise9);
        due.sentence("Promise 10:", "The first block WRITTEN, from one on (below 0: from 0 on), that is not GOOD; NONE "
            + "if there is none.",
            PromiseSentencesTest::promise10);
        due.sentence("Promise 11:", "NONE for another what.",
            PromiseSentencesTest::promise11);
        due.end();
    }

    private static void promise1() {
        BlockTape x = new BlockTape();
        int[] counts = {0, 0, 0, 0, 0, 0, 80 * 56};
        for (int what = 0; what < counts.length; what++) {
            due.is("count " + what, x.count(what), counts[what]);
        }
        for (int block = 0; block <= 80; block++) {
            due.is("good " + block, x.good(block), false);
            due.is("byteOf " + block, x.byteOf(block, 0), -1);
        }
        for (int what = 0; what <= 4; what++) {
            due.is("read 0 " + what, x.read(0, what), -1);
        }
        due.is("verify", x.verify(0), -1);
        due.is("close", x.close(), false);

        BlockTape y = new BlockTape();
        due.is("the first record", y.put(0, 0), 0);
        due.is("its block", y.close(), true);
        due.is("its length", y.read(0, 2), 0);
        due.is("not spoilt from the beginning", y.heal(0), false);
        due.is("room behind it", y.count(6), 79 * 56);
        for (int i = 14; i < 64; i++) {
            due.is("not used " + i, y.byteOf(0, i), 0);
        }
    }

    private static void promise2() {
        eachNumberOfBytes();
        anotherNumberOfBytes();
        longerThan300();
    }

    private static void eachNumberOfBytes() {
        int[] values = {0, 1, -1, MIN, MAX, 0x80FF007F, 0x01020304};
        for (int v : values) {
            for (int n = 1; n <= 4; n++) {
                BlockTape x = new BlockTape();
                due.is("feed " + v + " " + n, x.feed(v, n), n);
                due.is("feed again " + v + " " + n, x.feed(~v, n), 2 * n);
                x.put(0, 0);
                x.close();
                for (int k = 0; k < n; k++) {
                    due.is("byte " + k + " of " + v, x.read(0, 4 + k), v >>> 24 - 8 * k & 255);
                    due.is("byte " + (n + k), x.read(0, 4 + n + k), ~v >>> 24 - 8 * k & 255);
                }
                due.is("no byte more", x.read(0, 4 + 2 * n), -1);
            }
        }
    }

    private static void anotherNumberOfBytes() {
        int[] others = {0, 5, -1, -4, 8, 255, 256, 257, 260, 300, 65537, 1 << 30, MIN, MIN + 1, MIN + 4, MAX};
        int[] lengths = {0, 1, 150, 296, 299, 300};
        for (int length : lengths) {
            Twins.same(due, "another n at length " + length, x -> Tapes.feedBytes(x, 3, length), x -> {
                for (int n : others) {
                    due.is("feed 7 " + n + " at length " + length, x.feed(7, n), -1);
                }
            });
        }
    }

    private static void longerThan300() {
        for (int length = 296; length <= 300; length++) {
            int before = length;
            for (int n = 1; n <= 4; n++) {
                BlockTape x = new BlockTape();
                Tapes.feedBytes(x, 3, length);
                due.is("feed " + n + " at " + length, x.feed(-1, n), length + n <= 300 ? length + n : -1);
                due.is("length behind it", x.count(0), length + n <= 300 ? length + n : length);
            }
            Twins.same(due, "too long at " + length, x -> Tapes.feedBytes(x, 3, before), x -> {
                for (int n = 301 - before; n <= 4; n++) {
                    due.is("feed " + n + " at " + before, x.feed(-1, n), -1);
                }
            });
        }
    }

    private static void promise3() {
        noSuchStreamOrIndex();
        moreThan200();
        noRoomForAll();
    }

    private static void noSuchStreamOrIndex() {
        int[] streams = {-1, 256, 257, 511, 512, 65536, MIN, MIN + 255, MAX};
        int[] indices = {-1, 65536, 65537, 131071, 1 << 24, MIN, MIN + 65535, MAX};
        Twins.same(due, "no such stream or index", x -> {
            Tapes.putBytes(x, 1, 1, 0, 20);
            Tapes.feedBytes(x, 40, 7);
        }, x -> {
            for (int stream : streams) {
                due.is("stream " + stream, x.put(stream, 0), -1);
                due.is("stream " + stream, x.put(stream, 65535), -1);
            }
            for (int index : indices) {
                due.is("index " + index, x.put(0, index), -1);
                due.is("index " + index, x.put(255, index), -1);
            }
            due.is("neither", x.put(256, 65536), -1);
        });

        BlockTape x = new BlockTape();
        int[][] edges = {{0, 0}, {0, 65535}, {255, 0}, {255, 65535}, {128, 32768}, {127, 32767}, {1, 255}, {1, 256}};
        for (int i = 0; i < edges.length; i++) {
            due.is("put " + edges[i][0] + " " + edges[i][1], x.put(edges[i][0], edges[i][1]), i);
        }
        x.close();
        for (int i = 0; i < edges.length; i++) {
            due.is("stream " + i, x.read(i, 0), edges[i][0]);
            due.is("index " + i, x.read(i, 1), edges[i][1]);
        }
    }

    private static void moreThan200() {
        BlockTape x = new BlockTape();
        for (int i = 0; i < 200; i++) {
            due.is("put " + i, x.put(i % 256, i), i);
        }
        due.is("put 200", x.put(1, 1), -1);
        Twins.same(due, "200 records", y -> {
            Tapes.putEmpty(y, 200);
            y.feed(0x01020304, 3);
        }, y -> {
            due.is("put 200", y.put(1, 1), -1);
            due.is("put 200 again", y.put(255, 65535), -1);
        });
        Twins.same(due, "200 records in closed blocks", y -> {
            Tapes.putEmpty(y, 200);
            y.close();
        }, y -> due.is("put 200", y.put(1, 1), -1));
    }

    private static void noRoomForAll() {
        int[][] cases = {{79, 0, 56}, {79, 10, 46}, {79, 50, 6}, {75, 0, 280}, {75, 10, 270}, {74, 30, 306}};
        for (int[] c : cases) {
            BlockTape x = Tapes.blocksAndRow(c[0], c[1]);
            due.is("room", x.count(6), c[2]);
            Tapes.feedBytes(x, 0, c[2] - 6);
            due.is(c[2] + " into as many", x.put(1, 1), c[0] + (c[1] > 0 ? 1 : 0));
            due.is("the tape behind it", x.count(0), 0);
            due.is("blocks", x.count(2), 80);
            due.is("room behind it", x.count(6), 0);
            if (c[2] < 306) {
                Twins.same(due, "one byte too long for " + c[2], y -> {
                    Tapes.blocksAndRow(y, c[0], c[1]);
                    Tapes.feedBytes(y, 0, c[2] - 5);
                }, y -> due.is(c[2] + 1 + " into " + c[2], y.put(1, 1), -1));
            }
        }
        for (int room = 0; room <= 5; room++) {
            int first = 56 - room;
            Twins.same(due, "room " + room, y -> Tapes.blocksAndRow(y, 79, first),
                y -> due.is("6 into " + (56 - first), y.put(1, 1), -1));
        }
        Twins.same(due, "no record begins in the last block", y -> {
            Tapes.blocksAndRow(y, 78, 66);
            Tapes.feedBytes(y, 0, 41);
        }, y -> due.is("47 into 46", y.put(1, 1), -1));
        Twins.same(due, "the longest", y -> {
            Tapes.blocksAndRow(y, 74, 31);
            Tapes.feedBytes(y, 0, 300);
        }, y -> due.is("306 into 305", y.put(1, 1), -1));
    }

    private static void promise4() {
        for (int data = 6; data < 56; data++) {
            BlockTape x = Tapes.blocksAndRow(0, data);
            due.is("close at " + data, x.close(), true);
            due.is("used", x.byteOf(0, 2), data);
            due.is("blocks", x.count(2), 1);
            due.is("DATA", x.count(3), 0);
            due.is("close again", x.close(), false);
            due.is("blocks", x.count(2), 1);
        }
        for (int data = 1; data < 6; data++) {
            BlockTape x = Tapes.blocksAndRow(0, 56 + data);
            due.is("close at " + data + " that ran on", x.close(), true);
            due.is("used", x.byteOf(1, 2), data);
            due.is("close again", x.close(), false);
        }
        BlockTape fed = Tapes.blocksAndRow(0, 9);
        fed.feed(0x01020304, 3);
        due.is("close with a tape", fed.close(), true);
        due.is("the tape stays", fed.count(0), 3);
        Twins.same(due, "nothing", x -> { }, x -> due.is("close", x.close(), false));
        Twins.same(due, "a tape alone", x -> x.feed(5, 4), x -> due.is("close", x.close(), false));
        Twins.same(due, "a full block", x -> Tapes.blocksAndRow(x, 0, 56), x -> due.is("close", x.close(), false));
        Twins.same(due, "a full volume", x -> Tapes.blocksAndRow(x, 80, 0), x -> due.is("close", x.close(), false));
        BlockTape last = Tapes.blocksAndRow(79, 6);
        due.is("the last block", last.close(), true);
        due.is("blocks", last.count(2), 80);
        due.is("behind the last", last.close(), false);
    }

    private static void promise5() {
        addedGoingRound();
        spoilRefused();
        spoiltAlready();
    }

    private static void addedGoingRound() {
        for (int by = 1; by <= 255; by++) {
            BlockTape x = Tapes.throughBlocks();
            int[] places = {0, 3, 13};
            int[] whole = {0, 255, 90};
            int[] blocks = {2, 1, 0};
            for (int i = 0; i < 3; i++) {
                due.is("whole", x.byteOf(blocks[i], places[i]), whole[i]);
                due.is("spoil by " + by, x.spoil(blocks[i], places[i], by), true);
                due.is(whole[i] + " and " + by, x.byteOf(blocks[i], places[i]), (whole[i] + by) % 256);
            }
        }
    }

    private static void spoilRefused() {
        int[] noBlocks = {-1, 3, 4, 79, 80, 256, MIN, MIN + 1, MAX, 1 << 26};
        int[] noBytes = {-1, 64, 65, 255, 256, MIN, MAX};
        int[] noBys = {0, -1, -255, 256, 257, 511, 512, MIN, MIN + 1, MAX};
        Twins.same(due, "spoil refused", x -> Tapes.threeBlocksAndSome(x), x -> {
            for (int block : noBlocks) {
                due.is("block " + block, x.spoil(block, 0, 1), false);
                due.is("block " + block, x.spoil(block, 63, 255), false);
            }
            for (int at : noBytes) {
                due.is("byte " + at, x.spoil(0, at, 1), false);
                due.is("byte " + at, x.spoil(1, at, 1), false);
            }
            for (int by : noBys) {
                due.is("by " + by, x.spoil(0, 0, by), false);
                due.is("by " + by, x.spoil(2, 63, by), false);
            }
        });
        BlockTape x = new BlockTape();
        Tapes.threeBlocksAndSome(x);
        due.is("the first of all", x.spoil(0, 0, 1), true);
        due.is("the last of all", x.spoil(2, 63, 255), true);
        BlockTape full = Tapes.blocksAndRow(80, 0);
        due.is("block 79", full.spoil(79, 63, 1), true);
        due.is("block 80", full.spoil(80, 0, 1), false);
    }

    private static void spoiltAlready() {
        Twins.same(due, "spoilt already", x -> {
            Tapes.threeBlocksAndSome(x);
            x.spoil(1, 20, 200);
        }, x -> {
            due.is("as before", x.spoil(1, 20, 200), false);
            due.is("back to what it was", x.spoil(1, 20, 56), false);
            for (int at = 0; at < 64; at++) {
                due.is("byte " + at, x.spoil(1, at, 1), false);
            }
        });
        BlockTape x = new BlockTape();
        Tapes.threeBlocksAndSome(x);
        x.spoil(1, 20, 200);
        due.is("the block before", x.spoil(0, 20, 200), true);
        due.is("the block behind", x.spoil(2, 20, 200), true);
        x.heal(1);
        due.is("healed and the same byte", x.spoil(1, 20, 200), true);
    }

    private static void promise6() {
        for (int at = 0; at < 64; at++) {
            for (int by = 1; by <= 255; by += 127) {
                BlockTape x = Tapes.throughBlocks();
                int whole = x.byteOf(1, at);
                x.spoil(1, at, by);
                due.is("heal " + at, x.heal(1), true);
                due.is("byte " + at, x.byteOf(1, at), whole);
                due.is("good", x.good(1), true);
                due.is("heal again " + at, x.heal(1), false);
                due.is("byte " + at + " stays", x.byteOf(1, at), whole);
            }
        }
        BlockTape three = Tapes.throughBlocks();
        for (int block = 0; block < 3; block++) {
            three.spoil(block, 9, 1);
        }
        due.is("one of three", three.heal(1), true);
        due.is("the others are spoilt", three.count(5), 2);
        due.is("the one before", three.heal(0), true);
        due.is("the one behind", three.heal(2), true);
        int[] others = {-1, 0, 2, 3, 4, 79, 80, 256, MIN, MIN + 1, MAX, 1 << 26};
        Twins.same(due, "not spoilt", x -> {
            Tapes.threeBlocksAndSome(x);
            x.spoil(1, 20, 200);
        }, x -> {
            for (int block : others) {
                due.is("heal " + block, x.heal(block), false);
            }
        });
        BlockTape full = Tapes.blocksAndRow(80, 0);
        due.is("79 is not", full.heal(79), false);
        full.spoil(79, 0, 1);
        due.is("79 is", full.heal(79), true);
        due.is("there is no 80", full.heal(80), false);
    }

    private static void promise7() {
        BlockTape x = new BlockTape();
        Tapes.threeBlocksAndSome(x);
        int[] noBlocks = {-1, 3, 4, 79, 80, 256, MIN, MIN + 1, MAX, 1 << 26};
        int[] noBytes = {-1, 64, 65, 128, 256, MIN, MAX};
        for (int block : noBlocks) {
            due.is("block " + block, x.byteOf(block, 0), -1);
            due.is("block " + block, x.byteOf(block, 63), -1);
        }
        for (int i : noBytes) {
            due.is("byte " + i, x.byteOf(0, i), -1);
            due.is("byte " + i, x.byteOf(1, i), -1);
            due.is("byte " + i, x.byteOf(2, i), -1);
        }
        due.is("the first of all", x.byteOf(0, 0), 0);
        due.is("the last of block 0", x.byteOf(0, 63), 49);
        due.is("the last of all", x.byteOf(2, 63), 161);
        x.spoil(2, 63, 255);
        due.is("spoilt", x.byteOf(2, 63), 160);
        x.heal(2);
        due.is("healed", x.byteOf(2, 63), 161);
        x.close();
        due.is("now written", x.byteOf(3, 1), 3);
        due.is("now written", x.byteOf(3, 63), 0);
        BlockTape full = Tapes.blocksAndRow(80, 0);
        due.is("block 79", full.byteOf(79, 1), 79);
        due.is("block 80", full.byteOf(80, 1), -1);
    }

    private static void promise8() {
        BlockTape x = new BlockTape();
        due.is("an empty volume", x.good(0), false);
        Tapes.threeBlocksAndSome(x);
        int[] noBlocks = {-1, 3, 4, 79, 80, 256, MIN, MIN + 1, MAX, 1 << 26};
        for (int block : noBlocks) {
            due.is("good " + block, x.good(block), false);
        }
        for (int block = 0; block < 3; block++) {
            due.is("good " + block, x.good(block), true);
        }
        x.close();
        due.is("now written", x.good(3), true);
        due.is("the next is not", x.good(4), false);
        for (int at = 0; at < 64; at++) {
            BlockTape y = Tapes.throughBlocks();
            y.spoil(1, at, 1 + 4 * at);
            due.is("spoilt at " + at, y.good(1), false);
            due.is("before it", y.good(0), true);
            due.is("behind it", y.good(2), true);
            y.heal(1);
            due.is("healed at " + at, y.good(1), true);
        }
        BlockTape full = Tapes.blocksAndRow(80, 0);
        due.is("79", full.good(79), true);
        due.is("80", full.good(80), false);
    }

    private static void promise9() {
        int[] lengths = {0, 1, 2, 255, 256, 300};
        for (int length : lengths) {
            BlockTape x = new BlockTape();
            Tapes.putBytes(x, 7, 300, 11, length);
            due.is("not yet READ", x.read(0, 0), -1);
            x.close();
            due.is("length", x.read(0, 2), length);
            if (length > 0) {
                due.is("the last byte of " + length, x.read(0, 3 + length), 10 + length & 255);
            }
            due.is("behind the last of " + length, x.read(0, 4 + length), -1);
            due.is("far behind the last of " + length, x.read(0, 4 + length + 256), -1);
        }
        BlockTape x = Tapes.spread();
        int[] noNumbers = {-1, 4, 5, 199, 200, MIN, MIN + 1, MAX};
        for (int i : noNumbers) {
            for (int what = 0; what <= 4; what++) {
                due.is("read " + i + " " + what, x.read(i, what), -1);
            }
        }
        int[] noWhats = {-1, -2, -4, 304, 1000, MIN, MIN + 3, MIN + 4, MIN + 5, MAX - 4, MAX};
        for (int what : noWhats) {
            due.is("read 0 " + what, x.read(0, what), -1);
            due.is("read 3 " + what, x.read(3, what), -1);
        }
        x.spoil(2, 9, 1);
        due.is("the first is left", x.read(0, 0), 10);
        due.is("the second is not", x.read(1, 0), -1);
        x.spoil(0, 9, 1);
        due.is("none is left", x.read(0, 0), -1);
    }

    private static void promise10() {
        BlockTape x = new BlockTape();
        int[] all = {MIN, MIN + 1, -81, -1, 0, 1, 2, 3, 4, 79, 80, 81, MAX};
        for (int block : all) {
            due.is("an empty volume, " + block, x.verify(block), -1);
        }
        Tapes.threeBlocksAndSome(x);
        for (int block : all) {
            due.is("all good, " + block, x.verify(block), -1);
        }
        for (int spoilt = 0; spoilt < 3; spoilt++) {
            x.spoil(spoilt, 4, 1);
            for (int block : all) {
                due.is(spoilt + " spoilt, " + block, x.verify(block), block <= spoilt ? spoilt : -1);
            }
            x.heal(spoilt);
        }
        x.spoil(0, 4, 1);
        x.spoil(2, 4, 1);
        for (int block : all) {
            due.is("0 and 2 spoilt, " + block, x.verify(block), block <= 0 ? 0 : block <= 2 ? 2 : -1);
        }
        BlockTape full = Tapes.blocksAndRow(80, 0);
        full.spoil(79, 63, 1);
        for (int block : all) {
            due.is("79 spoilt, " + block, full.verify(block), block <= 79 ? 79 : -1);
        }
    }

    private static void promise11() {
        BlockTape x = new BlockTape();
        BlockTape y = new BlockTape();
        Tapes.threeBlocksAndSome(y);
        y.feed(1, 3);
        y.spoil(1, 1, 1);
        int[] others = {-1, -2, 7, 8, 255, 256, 262, 1 << 30, MIN, MIN + 6, MAX};
        for (int what : others) {
            due.is("count " + what, x.count(what), -1);
            due.is("count " + what, y.count(what), -1);
        }
        due.is("count 0", y.count(0), 3);
        due.is("count 1", y.count(1), 3);
        due.is("count 2", y.count(2), 3);
        due.is("count 3", y.count(3), 10);
        due.is("count 4", y.count(4), 1);
        due.is("count 5", y.count(5), 1);
        due.is("count 6", y.count(6), 4480 - 3 * 56 - 10);
        y.heal(1);
        for (int block = 0; block < 3; block++) {
            y.spoil(block, 1, 1);
            due.is("count 5 up to block " + block, y.count(5), block + 1);
        }
    }
}
