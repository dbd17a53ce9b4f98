/**
 * Two objects with the same calls behind them, but that one was also asked what is refused: all that can be
 * seen of them must be the same. An object has 512 calls only, so each look is taken at a new pair.
 */
final class Twins {
    interface Calls {
        void on(BlockTape x);
    }

    private interface Look {
        int at(BlockTape x, int k);
    }

    private final Due due;
    private final String name;
    private final Calls before;
    private final Calls refused;

    private Twins(Due due, String name, Calls before, Calls refused) {
        this.due = due;
        this.name = name;
        this.before = before;
        this.refused = refused;
    }

    static void same(Due due, String name, Calls before, Calls refused) {
        new Twins(due, name, before, refused).compareAll();
    }

    private BlockTape plain() {
        BlockTape x = new BlockTape();
        before.on(x);
        return x;
    }

    private void compare(String what, int looks, Look look) {
        BlockTape one = plain();
        BlockTape other = plain();
        refused.on(other);
        for (int k = 0; k < looks; k++) {
            due.is(name + ": " + what + " " + k, look.at(other, k), look.at(one, k));
        }
    }

    private void compareAll() {
        int blocks = plain().count(2);
        int read = plain().count(4);
        compare("count", 7, BlockTape::count);
        compare("verify", blocks, BlockTape::verify);
        for (int block = 0; block < blocks; block++) {
            int b = block;
            compare("block " + b + ", byte", 64, (x, k) -> x.byteOf(b, k));
            compare("healed block " + b + ", byte", 65, (x, k) -> k == 0 ? bit(x.heal(b)) : x.byteOf(b, k - 1));
        }
        compare("heal", blocks, (x, k) -> bit(x.heal(k)));
        compare("spoil", blocks, (x, k) -> bit(x.spoil(k, 5, 9)));
        for (int i = 0; i < read; i++) {
            int record = i;
            compare("read " + i + ", what", 5 + plain().read(i, 2), (x, k) -> x.read(record, k));
        }
        compare("the block that close() writes, byte", 65, (x, k) -> k == 0 ? bit(x.close()) : x.byteOf(blocks, k - 1));
        compareTheTape();
    }

    /** The bytes of the tape can be seen only as a record, in a volume that has room for it. */
    private void compareTheTape() {
        compare("put and close", 2, (x, k) -> k == 0 ? x.put(17, 1717) : bit(x.close()));
        BlockTape one = plain();
        if (!putAndClose(one)) {
            return;
        }
        int last = one.count(4) - 1;
        compare("the tape as a record, what", 5 + one.read(last, 2), (x, k) -> {
            if (k == 0) {
                putAndClose(x);
            }
            return x.read(last, k);
        });
    }

    private static boolean putAndClose(BlockTape x) {
        boolean could = x.put(17, 1717) != BlockTape.NONE;
        x.close();
        return could;
    }

    private static int bit(boolean b) {
        return b ? 1 : 0;
    }
}
