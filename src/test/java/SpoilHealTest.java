/** Promises 5 and 6. */
public final class SpoilHealTest {
    private static final Due due = new Due();

    public static void main(String[] args) {
        everyByte();
        goingRound();
        wrongArguments();
        onceOnly();
        healing();
        due.end();
    }

    private static void everyByte() {
        for (int at = 0; at < 64; at++) {
            BlockTape x = Tapes.spread();
            int before = x.byteOf(2, at);
            due.is("spoil " + at, x.spoil(2, at, 1 + at), true);
            due.is("byte " + at, x.byteOf(2, at), before + 1 + at & 255);
            due.is("good " + at, x.good(2), false);
            due.is("others " + at, x.count(5), 1);
            due.is("read " + at, x.count(4), 1);
            due.is("heal " + at, x.heal(2), true);
            due.is("byte back " + at, x.byteOf(2, at), before);
            due.is("good again " + at, x.good(2), true);
            due.is("read again " + at, x.count(4), 4);
        }
    }

    private static void goingRound() {
        BlockTape x = Tapes.blocks(3);
        due.is("1 + 255", x.byteOf(1, 1), 1);
        x.spoil(1, 1, 255);
        due.is("1 + 255", x.byteOf(1, 1), 0);
        x.spoil(0, 8 + 5, 200);
        due.is("90 + 200", x.byteOf(0, 13), 34);
        x.heal(0);
        due.is("90", x.byteOf(0, 13), 90);
        x.heal(1);
        due.is("1", x.byteOf(1, 1), 1);
    }

    private static void wrongArguments() {
        BlockTape x = Tapes.blocks(2);
        x.put(1, 1);
        due.is("not yet written", x.spoil(2, 0, 1), false);
        due.is("by 0", x.spoil(0, 0, 0), false);
        due.is("by 256", x.spoil(0, 0, 256), false);
        due.is("byte 64", x.spoil(0, 64, 1), false);
        due.is("block 80", x.spoil(80, 0, 1), false);
        due.is("heal 80", x.heal(80), false);
        due.is("heal 2", x.heal(2), false);
        for (int odd : Tapes.ODD_NUMBERS) {
            due.is("block " + odd, x.spoil(odd, 0, 1), false);
            due.is("byte " + odd, x.spoil(0, odd, 1), false);
            due.is("by " + odd, x.spoil(0, 0, odd), false);
            due.is("heal " + odd, x.heal(odd), false);
        }
        due.is("nothing changed", x.count(5), 0);
        due.is("edge", x.spoil(1, 63, 255), true);
        due.is("the unused byte", x.byteOf(1, 63), 255);
    }

    private static void onceOnly() {
        BlockTape x = Tapes.blocks(2);
        x.spoil(0, 9, 5);
        int spoilt = x.byteOf(0, 9);
        due.is("the same byte", x.spoil(0, 9, 5), false);
        due.is("back by adding", x.spoil(0, 9, 251), false);
        due.is("another byte", x.spoil(0, 10, 5), false);
        due.is("byte", x.byteOf(0, 9), spoilt);
        due.is("other byte", x.byteOf(0, 10), 0);
        due.is("another block", x.spoil(1, 9, 5), true);
        due.is("both", x.count(5), 2);
    }

    private static void healing() {
        BlockTape x = Tapes.blocks(2);
        due.is("a good one", x.heal(0), false);
        x.spoil(0, 20, 3);
        due.is("the other", x.heal(1), false);
        due.is("heal", x.heal(0), true);
        due.is("again", x.heal(0), false);
        due.is("spoilt anew", x.spoil(0, 21, 4), true);
        due.is("first byte is whole", x.byteOf(0, 20), 0);
        due.is("second is not", x.byteOf(0, 21), 4);
        due.is("healed anew", x.heal(0), true);
        due.is("second too", x.byteOf(0, 21), 0);
    }
}
