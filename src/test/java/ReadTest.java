/** Promise 9, with READING. */
public final class ReadTest {
    private static final Due due = new Due();

    public static void main(String[] args) {
        allGood();
        oneSpoilt();
        theOpenBlock();
        beginningAnewWithoutABeginning();
        noneSuch();
        due.end();
    }

    /** The records that are READ, told by their streams. */
    private static void streams(String when, BlockTape x, int... want) {
        due.is(when + ", how many", x.count(4), want.length);
        for (int i = 0; i < want.length; i++) {
            due.is(when + ", stream " + i, x.read(i, 0), want[i]);
            due.is(when + ", index " + i, x.read(i, 1), want[i] + 990);
        }
        for (int what = 0; what < 5; what++) {
            due.is(when + ", one more, what " + what, x.read(want.length, what), -1);
        }
    }

    private static void allGood() {
        BlockTape x = Tapes.spread();
        x.close();
        streams("all good", x, 10, 11, 12, 13, 14);
        int[] length = {4, 104, 2, 90, 4};
        int[] begins = {0, 0, 2, 2, 4};
        int[] from = {1, 50, 90, 160, 7};
        for (int i = 0; i < 5; i++) {
            due.is("length " + i, x.read(i, 2), length[i]);
            due.is("begins " + i, x.read(i, 3), begins[i]);
            for (int k = 0; k < length[i]; k++) {
                due.is("byte " + i + " " + k, x.read(i, 4 + k), from[i] + k & 255);
            }
            due.is("behind the last " + i, x.read(i, 4 + length[i]), -1);
        }
    }

    private static void oneSpoilt() {
        int[][] left = {{12, 13, 14}, {10, 12, 13, 14}, {10, 14}, {10, 11, 12, 14}, {10, 11, 12, 13}};
        for (int block = 0; block < 5; block++) {
            BlockTape x = Tapes.spread();
            x.close();
            x.spoil(block, 8 + block, 77);
            streams("spoilt " + block, x, left[block]);
            x.heal(block);
            streams("healed " + block, x, 10, 11, 12, 13, 14);
        }
        BlockTape x = Tapes.spread();
        x.close();
        x.spoil(0, 2, 1);
        x.spoil(3, 3, 1);
        streams("spoilt 0 and 3", x, 12, 14);
        due.is("begins", x.read(0, 3), 2);
        due.is("its byte", x.read(0, 5), 91);
        for (int block = 0; block < 5; block++) {
            x.spoil(block, 4, 1);
        }
        streams("all spoilt", x);
    }

    private static void theOpenBlock() {
        BlockTape x = Tapes.spread();
        streams("the last not written", x, 10, 11, 12, 13);
        BlockTape y = new BlockTape();
        Tapes.putBytes(y, 10, 1000, 0, 50);
        streams("just to the end", y, 10);
        Tapes.putBytes(y, 11, 1001, 0, 51);
        streams("one byte beyond", y, 10);
        y.close();
        streams("closed", y, 10, 11);
    }

    private static void beginningAnewWithoutABeginning() {
        BlockTape x = new BlockTape();
        Tapes.putBytes(x, 10, 1000, 0, 300);
        Tapes.putBytes(x, 11, 1001, 0, 1);
        x.close();
        x.spoil(2, 30, 1);
        streams("blocks without a beginning", x, 11);
        due.is("begins", x.read(0, 3), 5);
    }

    private static void noneSuch() {
        BlockTape x = Tapes.blocks(2);
        due.is("2 of 2", x.read(2, 0), -1);
        due.is("no byte", x.read(1, 4), -1);
        due.is("what -1", x.read(0, -1), -1);
        for (int odd : Tapes.ODD_NUMBERS) {
            due.is("i " + odd, x.read(odd, 0), -1);
            due.is("what " + odd, x.read(0, odd), -1);
        }
    }
}
