/** Promise 11. */
public final class CountTest {
    private static final Due due = new Due();

    private static void counts(String when, BlockTape x, int... want) {
        for (int what = 0; what < want.length; what++) {
            due.is(when + ", count " + what, x.count(what), want[what]);
        }
    }

    public static void main(String[] args) {
        BlockTape x = Tapes.spread();
        counts("written", x, 0, 5, 4, 10, 4, 0, 4480 - 234);
        x.feed(1, 3);
        counts("fed", x, 3, 5, 4, 10, 4, 0, 4480 - 234);
        x.close();
        counts("closed", x, 3, 5, 5, 0, 5, 0, 4480 - 280);
        x.spoil(0, 0, 1);
        x.spoil(4, 0, 1);
        counts("spoilt", x, 3, 5, 5, 0, 2, 2, 4480 - 280);
        x.heal(4);
        counts("healed", x, 3, 5, 5, 0, 3, 1, 4480 - 280);
        x.put(0, 0);
        counts("put", x, 0, 6, 5, 9, 3, 1, 4480 - 289);
        due.is("count 7", x.count(7), -1);
        for (int odd : Tapes.ODD_NUMBERS) {
            due.is("count " + odd, x.count(odd), -1);
        }
        counts("full", Tapes.blocks(80), 0, 80, 80, 0, 80, 0, 0);
        due.end();
    }
}
