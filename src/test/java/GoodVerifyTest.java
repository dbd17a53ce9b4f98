/** Promises 8 and 10. */
public final class GoodVerifyTest {
    public static void main(String[] args) {
        Due due = new Due();
        BlockTape x = Tapes.blocks(6);
        x.put(1, 1);
        for (int block = 0; block < 6; block++) {
            due.is("good " + block, x.good(block), true);
        }
        due.is("not yet written", x.good(6), false);
        due.is("verify none", x.verify(0), -1);
        for (int odd : Tapes.ODD_NUMBERS) {
            due.is("good " + odd, x.good(odd), false);
            due.is("verify none " + odd, x.verify(odd), -1);
        }

        x.spoil(2, 0, 1);
        x.spoil(4, 63, 128);
        due.is("good 1", x.good(1), true);
        due.is("good 2", x.good(2), false);
        due.is("good 3", x.good(3), true);
        due.is("good 4", x.good(4), false);
        int[] want = {2, 2, 2, 4, 4, -1, -1, -1};
        for (int block = 0; block < want.length; block++) {
            due.is("verify " + block, x.verify(block), want[block]);
        }
        for (int odd : Tapes.ODD_NUMBERS) {
            due.is("verify " + odd, x.verify(odd), odd < 0 ? 2 : -1);
        }
        x.heal(2);
        due.is("good again", x.good(2), true);
        due.is("verify the next", x.verify(-1), 4);
        x.heal(4);
        due.is("all good", x.verify(0), -1);
        due.end();
    }
}
