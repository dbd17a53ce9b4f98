/** Promise 7: with it, how a block is made up. */
public final class ByteOfTest {
    private static final Due due = new Due();

    public static void main(String[] args) {
        heads();
        sums();
        noneSuch();
        due.end();
    }

    private static void heads() {
        BlockTape x = Tapes.spread();
        x.close();
        int[] used = {56, 56, 56, 56, 10};
        int[] first = {0, 255, 120 - 112, 255, 0};
        for (int block = 0; block < 5; block++) {
            due.is("number, high, " + block, x.byteOf(block, 0), 0);
            due.is("number, low, " + block, x.byteOf(block, 1), block);
            due.is("used " + block, x.byteOf(block, 2), used[block]);
            due.is("first " + block, x.byteOf(block, 3), first[block]);
        }

        BlockTape late = new BlockTape();
        Tapes.putBytes(late, 1, 1, 0, 105);
        late.put(2, 2);
        late.close();
        due.is("a beginning at the last byte", late.byteOf(1, 3), 55);
        due.is("its rest", late.byteOf(2, 3), 255);
    }

    private static void sums() {
        BlockTape x = Tapes.spread();
        x.close();
        for (int block = 0; block < 5; block++) {
            due.is("sum " + block, Sums.stored(x, block), Sums.reckoned(x, block));
        }
        BlockTape last = Tapes.blocks(80);
        due.is("sum 79", Sums.stored(last, 79), Sums.reckoned(last, 79));
        due.is("number 79", last.byteOf(79, 1), 79);
    }

    private static void noneSuch() {
        BlockTape x = Tapes.blocks(1);
        x.put(1, 1);
        due.is("byte 63", x.byteOf(0, 63), 0);
        due.is("byte 64", x.byteOf(0, 64), -1);
        due.is("not yet written", x.byteOf(1, 0), -1);
        due.is("block 80", x.byteOf(80, 0), -1);
        for (int odd : Tapes.ODD_NUMBERS) {
            due.is("block " + odd, x.byteOf(odd, 0), -1);
            due.is("byte " + odd, x.byteOf(0, odd), -1);
        }
        BlockTape full = Tapes.blocks(80);
        due.is("block 79", full.byteOf(79, 13), 90);
        due.is("block 80 of 80", full.byteOf(80, 0), -1);
        due.is("good 80 of 80", full.good(80), false);
        due.is("spoil 80 of 80", full.spoil(80, 0, 1), false);
        due.is("heal 80 of 80", full.heal(80), false);
    }
}
