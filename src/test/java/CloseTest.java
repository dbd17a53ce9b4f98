/** Promise 4. */
public final class CloseTest {
    public static void main(String[] args) {
        Due due = new Due();
        BlockTape x = new BlockTape();
        due.is("nothing", x.close(), false);
        x.feed(1, 4);
        due.is("a tape alone", x.close(), false);
        due.is("no block", x.count(2), 0);
        x.put(3, 4);
        due.is("10 DATA", x.close(), true);
        due.is("again", x.close(), false);
        due.is("blocks", x.count(2), 1);
        due.is("used", x.byteOf(0, 2), 10);
        for (int i = 18; i < 64; i++) {
            due.is("not used " + i, x.byteOf(0, i), 0);
        }
        x.put(5, 6);
        due.is("in a new one", x.count(3), 6);
        due.is("written", x.close(), true);
        due.is("begins in", x.read(1, 3), 1);
        due.is("its number", x.byteOf(1, 1), 1);

        Tapes.putBytes(x, 1, 1, 0, 50);
        due.is("full is written", x.count(2), 3);
        due.is("nothing is left", x.close(), false);
        due.is("no block more", x.count(2), 3);

        x.feed(7, 2);
        x.put(1, 1);
        x.feed(7, 3);
        due.is("with a tape", x.close(), true);
        due.is("the tape stays", x.count(0), 3);
        due.end();
    }
}
