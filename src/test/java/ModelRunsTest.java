import java.util.ArrayList;
import java.util.List;
import java.util.Random;
import java.util.zip.CRC32;

/**
 * Runs of mixed calls, with seeds that are always the same, against a model that holds real blocks and
 * reads them as the document tells it: by sums, numbers and the places of first records, not by a list of
 * what was put.
 */
public final class ModelRunsTest {
    private static final int RUNS = 3000;
    private static final int CALLS = 512;

    private static final class Model {
        final List<int[]> blocks = new ArrayList<>();
        final List<int[]> whole = new ArrayList<>();
        final List<Integer> tape = new ArrayList<>();
        final List<Integer> open = new ArrayList<>();
        int openFirst = 255;
        int records = 0;

        int feed(int v, int n) {
            if (n < 1 || n > 4 || tape.size() + n > 300) {
                return -1;
            }
            int[] bytes = {v >>> 24, v >>> 16 & 255, v >>> 8 & 255, v & 255};
            for (int i = 0; i < n; i++) {
                tape.add(bytes[i]);
            }
            return tape.size();
        }

        int room() {
            return (80 - blocks.size()) * 56 - open.size();
        }

        int put(int stream, int index) {
            if (stream < 0 || stream > 255 || index < 0 || index > 65535 || records == 200
                    || tape.size() + 6 > room()) {
                return -1;
            }
            List<Integer> row = new ArrayList<>(List.of(
                stream, index / 256, index % 256, tape.size() / 256, tape.size() % 256, 90));
            row.addAll(tape);
            if (openFirst == 255) {
                openFirst = open.size();
            }
            for (int b : row) {
                open.add(b);
                if (open.size() == 56) {
                    write();
                }
            }
            tape.clear();
            return records++;
        }

        private void write() {
            int[] b = new int[64];
            b[0] = blocks.size() / 256;
            b[1] = blocks.size() % 256;
            b[2] = open.size();
            b[3] = openFirst;
            for (int i = 0; i < open.size(); i++) {
                b[8 + i] = open.get(i);
            }
            long sum = sum(b);
            for (int i = 7; i >= 4; i--) {
                b[i] = (int) (sum % 256);
                sum /= 256;
            }
            blocks.add(b);
            whole.add(b.clone());
            open.clear();
            openFirst = 255;
        }

        private static long sum(int[] b) {
            CRC32 crc = new CRC32();
            for (int i = 0; i < 64; i++) {
                if (i < 4 || i >= 8) {
                    crc.update(b[i]);
                }
            }
            return crc.getValue();
        }

        boolean close() {
            if (open.isEmpty()) {
                return false;
            }
            write();
            return true;
        }

        private boolean written(int block) {
            return block >= 0 && block < blocks.size();
        }

        private boolean spoilt(int block) {
            return !java.util.Arrays.equals(blocks.get(block), whole.get(block));
        }

        boolean spoil(int block, int at, int by) {
            if (!written(block) || at < 0 || at > 63 || by < 1 || by > 255 || spoilt(block)) {
                return false;
            }
            blocks.get(block)[at] = (blocks.get(block)[at] + by) % 256;
            return true;
        }

        boolean heal(int block) {
            if (!written(block) || !spoilt(block)) {
                return false;
            }
            blocks.set(block, whole.get(block).clone());
            return true;
        }

        int byteOf(int block, int i) {
            return written(block) && i >= 0 && i < 64 ? blocks.get(block)[i] : -1;
        }

        boolean good(int block) {
            if (!written(block)) {
                return false;
            }
            int[] b = blocks.get(block);
            long stored = ((b[4] * 256L + b[5]) * 256 + b[6]) * 256 + b[7];
            return stored == sum(b) && b[0] * 256 + b[1] == block;
        }

        /** Each: stream, index, length, block, bytes. */
        List<int[]> reading() {
            List<int[]> found = new ArrayList<>();
            List<Integer> bytes = new ArrayList<>();
            List<Integer> from = new ArrayList<>();
            boolean on = false;
            for (int block = 0; block < blocks.size(); block++) {
                int[] b = blocks.get(block);
                if (!good(block)) {
                    on = false;
                    bytes.clear();
                    from.clear();
                    continue;
                }
                if (!on && b[3] == 255) {
                    continue;
                }
                for (int i = on ? 0 : b[3]; i < b[2]; i++) {
                    bytes.add(b[8 + i]);
                    from.add(block);
                }
                on = true;
                takeRows(bytes, from, found);
            }
            return found;
        }

        private static void takeRows(List<Integer> bytes, List<Integer> from, List<int[]> found) {
            while (bytes.size() >= 6) {
                int length = bytes.get(3) * 256 + bytes.get(4);
                if (bytes.get(5) != 90) {
                    throw new IllegalStateException("the model lost its place");
                }
                if (bytes.size() < 6 + length) {
                    return;
                }
                int[] record = new int[4 + length];
                record[0] = bytes.get(0);
                record[1] = bytes.get(1) * 256 + bytes.get(2);
                record[2] = length;
                record[3] = from.get(0);
                for (int k = 0; k < length; k++) {
                    record[4 + k] = bytes.get(6 + k);
                }
                found.add(record);
                bytes.subList(0, 6 + length).clear();
                from.subList(0, 6 + length).clear();
            }
        }

        int read(int i, int what) {
            List<int[]> found = reading();
            return i < 0 || i >= found.size() || what < 0 || what >= found.get(i).length ? -1 : found.get(i)[what];
        }

        int verify(int block) {
            for (int b = 0; b < blocks.size(); b++) {
                if (b >= block && !good(b)) {
                    return b;
                }
            }
            return -1;
        }

        int count(int what) {
            int bad = 0;
            for (int b = 0; b < blocks.size(); b++) {
                bad += good(b) ? 0 : 1;
            }
            int[] all = {tape.size(), records, blocks.size(), open.size(), 0, bad, room()};
            if (what == 4) {
                return reading().size();
            }
            return what < 0 || what > 6 ? -1 : all[what];
        }
    }

    private static final Due due = new Due();

    /** Mostly -1 .. top + 1, now and then far outside. */
    private static int about(Random r, int top) {
        return r.nextInt(25) == 0 ? Tapes.ODD_NUMBERS[r.nextInt(Tapes.ODD_NUMBERS.length)] : r.nextInt(top + 3) - 1;
    }

    private static void oneCall(String at, int kind, Random r, BlockTape x, Model m) {
        int blocks = m.blocks.size();
        int a = about(r, blocks);
        int b = about(r, 63);
        switch (kind) {
            case 0: {
                int v = r.nextInt();
                int n = r.nextInt(8) == 0 ? about(r, 5) : 4;
                due.is(at + "feed " + v + " " + n, x.feed(v, n), m.feed(v, n));
                break;
            }
            case 1: {
                int stream = r.nextInt(20) == 0 ? about(r, 255) : r.nextInt(256);
                int index = r.nextInt(20) == 0 ? about(r, 65535) : r.nextInt(65536);
                due.is(at + "put " + stream + " " + index, x.put(stream, index), m.put(stream, index));
                break;
            }
            case 2:
                due.is(at + "close", x.close(), m.close());
                break;
            case 3: {
                int by = r.nextInt(4) == 0 ? about(r, 255) : 1 + r.nextInt(255);
                due.is(at + "spoil " + a + " " + b + " " + by, x.spoil(a, b, by), m.spoil(a, b, by));
                break;
            }
            case 4:
                due.is(at + "heal " + a, x.heal(a), m.heal(a));
                break;
            case 5:
                due.is(at + "byteOf " + a + " " + b, x.byteOf(a, b), m.byteOf(a, b));
                break;
            case 6:
                due.is(at + "good " + a, x.good(a), m.good(a));
                break;
            case 7: {
                int i = about(r, m.records);
                int what = r.nextInt(3) == 0 ? about(r, 310) : about(r, 8);
                due.is(at + "read " + i + " " + what, x.read(i, what), m.read(i, what));
                break;
            }
            case 8:
                due.is(at + "verify " + a, x.verify(a), m.verify(a));
                break;
            default: {
                int what = about(r, 6);
                due.is(at + "count " + what, x.count(what), m.count(what));
                break;
            }
        }
    }

    private static int pick(Random r, int[] weights) {
        int all = 0;
        for (int w : weights) {
            all += w;
        }
        int left = r.nextInt(all);
        for (int kind = 0; kind < weights.length; kind++) {
            left -= weights[kind];
            if (left < 0) {
                return kind;
            }
        }
        return 0;
    }

    public static void main(String[] args) {
        int[][] weights = {
            {40, 6, 1, 2, 1, 3, 2, 8, 2, 6},
            {90, 2, 1, 2, 1, 2, 1, 6, 1, 4},
            {10, 40, 1, 2, 1, 4, 2, 6, 2, 4},
            {10, 30, 25, 3, 2, 5, 2, 6, 2, 4},
            {40, 10, 4, 8, 8, 4, 4, 10, 4, 8}};
        int fullVolumes = 0;
        int fullOfRecords = 0;
        for (int run = 0; run < RUNS; run++) {
            Random r = new Random(run);
            BlockTape x = new BlockTape();
            Model m = new Model();
            for (int call = 0; call < CALLS; call++) {
                oneCall("run " + run + ", call " + call + ": ", pick(r, weights[run % weights.length]), r, x, m);
            }
            fullVolumes += m.blocks.size() == 80 ? 1 : 0;
            fullOfRecords += m.records == 200 ? 1 : 0;
        }
        due.is("some runs fill the volume", fullVolumes > 0, true);
        due.is("some runs have 200 records", fullOfRecords > 0, true);
        due.end();
    }
}
