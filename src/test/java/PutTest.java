/** Promise 3. */
public final class PutTest {
    private static final Due due = new Due();

    public static void main(String[] args) {
        theRow();
        wrongStreamsAndIndices();
        noMoreThan200();
        noRoom();
        fullBlocksAreWritten();
        due.end();
    }

    private static void theRow() {
        BlockTape x = new BlockTape();
        due.is("number", Tapes.putBytes(x, 255, 65535, 0, 0), 0);
        due.is("number", Tapes.putBytes(x, 7, 0x1234, 40, 300), 1);
        due.is("tape", x.count(0), 0);
        due.is("number", x.put(0, 0), 2);
        due.is("records", x.count(1), 3);
        x.close();
        int[] want = {255, 255, 255, 0, 0, 90, 7, 0x12, 0x34, 1, 44, 90, 40, 41, 42};
        for (int k = 0; k < want.length; k++) {
            due.is("DATA " + k, x.byteOf(0, 8 + k), want[k]);
        }
        int place = 6 + 306;
        int[] third = {0, 0, 0, 0, 0, 90, 0, 0};
        for (int k = 0; k < third.length; k++) {
            due.is("third " + k, x.byteOf((place + k) / 56, 8 + (place + k) % 56), third[k]);
        }
    }

    private static void wrongStreamsAndIndices() {
        BlockTape x = new BlockTape();
        x.feed(0x01020304, 3);
        due.is("stream 256", x.put(256, 0), -1);
        due.is("index 65536", x.put(0, 65536), -1);
        for (int odd : Tapes.ODD_NUMBERS) {
            due.is("stream " + odd, x.put(odd, 0), -1);
            due.is("index " + odd, x.put(0, odd), -1);
        }
        due.is("tape", x.count(0), 3);
        due.is("records", x.count(1), 0);
        due.is("DATA", x.count(3), 0);
        due.is("edge", x.put(255, 65535), 0);
        due.is("tape", x.count(0), 0);
        due.is("DATA", x.count(3), 9);
    }

    private static void noMoreThan200() {
        BlockTape x = new BlockTape();
        for (int i = 0; i < 200; i++) {
            due.is("put " + i, x.put(i, i), i);
        }
        x.feed(1, 2);
        due.is("put 200", x.put(0, 0), -1);
        due.is("records", x.count(1), 200);
        due.is("tape", x.count(0), 2);
        due.is("DATA", x.count(3), 1200 % 56);
        due.is("blocks", x.count(2), 1200 / 56);
        due.is("room", x.count(6), 4480 - 1200);
    }

    private static void noRoom() {
        BlockTape x = Tapes.blocks(79);
        Tapes.feedBytes(x, 0, 51);
        due.is("57 into 56", x.put(1, 1), -1);
        due.is("tape stays", x.count(0), 51);
        due.is("records", x.count(1), 79);
        due.is("room", x.count(6), 56);

        x = Tapes.blocks(79);
        Tapes.feedBytes(x, 0, 50);
        due.is("56 into 56", x.put(1, 1), 79);
        due.is("blocks", x.count(2), 80);
        due.is("room", x.count(6), 0);
        due.is("nothing more", x.put(1, 1), -1);
        due.is("close", x.close(), false);
        due.is("last read", x.read(79, 4 + 49), 49);

        x = Tapes.blocks(79);
        Tapes.putBytes(x, 1, 1, 0, 45);
        due.is("room 5", x.count(6), 5);
        due.is("6 into 5", x.put(1, 1), -1);
        due.is("close", x.close(), true);
        due.is("room", x.count(6), 0);
        due.is("blocks", x.count(2), 80);
        due.is("full", x.put(1, 1), -1);

        x = Tapes.blocks(74);
        Tapes.feedBytes(x, 0, 300);
        due.is("306 into 336", x.put(1, 1), 74);
        Tapes.feedBytes(x, 0, 25);
        due.is("31 into 30", x.put(1, 1), -1);
        due.is("room", x.count(6), 30);
    }

    private static void fullBlocksAreWritten() {
        BlockTape x = new BlockTape();
        Tapes.putBytes(x, 1, 1, 0, 49);
        due.is("55", x.count(2), 0);
        x.put(2, 2);
        due.is("61", x.count(2), 1);
        due.is("begins at", x.byteOf(0, 3), 0);
        x.close();
        due.is("none begins", x.byteOf(1, 3), 255);
        due.is("used", x.byteOf(1, 2), 5);
        due.is("read", x.read(1, 3), 0);
    }
}
