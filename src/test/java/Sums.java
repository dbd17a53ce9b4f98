import java.util.zip.CRC32;

/** The SUM of a block, as it stands in it and as the Java library reckons it. */
final class Sums {
    private Sums() { }

    static long stored(BlockTape x, int block) {
        long sum = 0;
        for (int i = 4; i < 8; i++) {
            sum = sum << 8 | x.byteOf(block, i);
        }
        return sum;
    }

    static long reckoned(BlockTape x, int block) {
        CRC32 crc = new CRC32();
        for (int i = 0; i < 64; i++) {
            if (i < 4 || i > 7) {
                crc.update(x.byteOf(block, i));
            }
        }
        return crc.getValue();
    }
}
