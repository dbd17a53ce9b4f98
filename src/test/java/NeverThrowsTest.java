import java.util.function.Supplier;

/** No call throws, whatever its arguments are and whatever calls came before, those behind the 512th too. */
public final class NeverThrowsTest {
    private static final Due due = new Due();
    private static final int[] EDGES = {
        Integer.MIN_VALUE, Integer.MIN_VALUE + 1, -65536, -300, -256, -80, -64, -5, -4, -3, -2, -1, 0, 1, 2, 3, 4, 5, 6, 7,
        55, 56, 57, 63, 64, 65, 79, 80, 81, 199, 200, 201, 255, 256, 299, 300, 301, 303, 304, 305, 4479, 4480, 5119, 5120,
        65535, 65536, 1 << 26, 1 << 30, Integer.MAX_VALUE - 5, Integer.MAX_VALUE - 1, Integer.MAX_VALUE};

    public static void main(String[] args) {
        everything("new", BlockTape::new);
        everything("a full tape", () -> {
            BlockTape x = new BlockTape();
            Tapes.feedBytes(x, 0, 300);
            return x;
        });
        everything("an open block", Tapes::spread);
        everything("200 records", () -> {
            BlockTape x = new BlockTape();
            Tapes.putEmpty(x, 200);
            return x;
        });
        everything("one byte of room", () -> Tapes.blocksAndRow(79, 55));
        everything("a full volume", () -> Tapes.blocks(80));
        everything("a full volume without close", () -> Tapes.blocksAndRow(75, 280));
        due.end();
    }

    private static void everything(String state, Supplier<BlockTape> made) {
        asks(state, made.get());
        BlockTape spoilt = made.get();
        for (int block = 0; block < 80; block += 3) {
            spoilt.spoil(block, block % 64, 255);
        }
        asks(state + ", spoilt", spoilt);
        changes(state, made);
    }

    private static void asks(String state, BlockTape x) {
        due.sentence(state + ":", "asks", () -> {
            for (int a : EDGES) {
                x.good(a);
                x.verify(a);
                x.count(a);
                for (int b : EDGES) {
                    x.byteOf(a, b);
                    x.read(a, b);
                }
            }
        });
    }

    private static void changes(String state, Supplier<BlockTape> made) {
        BlockTape x = made.get();
        due.sentence(state + ":", "changes", () -> {
            for (int a : EDGES) {
                for (int b : EDGES) {
                    x.feed(a, b);
                    x.put(a, b);
                    for (int c : EDGES) {
                        x.spoil(a, b, c);
                    }
                    x.heal(b);
                }
                x.close();
            }
        });
        asks(state + ", behind the changes", x);
    }
}
