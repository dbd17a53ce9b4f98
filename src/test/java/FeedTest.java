/** Promise 2. */
public final class FeedTest {
    private static final Due due = new Due();

    public static void main(String[] args) {
        bytesFromTheHighestOn();
        wrongNumbers();
        theLongestTape();
        due.end();
    }

    private static void bytesFromTheHighestOn() {
        BlockTape x = new BlockTape();
        due.is("feed 4", x.feed(0x81020384, 4), 4);
        due.is("feed 3", x.feed(0x05FF0709, 3), 7);
        due.is("feed 2", x.feed(0x080A7777, 2), 9);
        due.is("feed 1", x.feed(0xFE666666, 1), 10);
        due.is("put", x.put(0, 0), 0);
        x.close();
        int[] want = {0x81, 2, 3, 0x84, 5, 255, 7, 8, 10, 254};
        due.is("length", x.read(0, 2), want.length);
        for (int k = 0; k < want.length; k++) {
            due.is("byte " + k, x.read(0, 4 + k), want[k]);
        }
        due.is("byte 10", x.read(0, 14), -1);
    }

    private static void wrongNumbers() {
        BlockTape x = new BlockTape();
        x.feed(0x01020304, 3);
        due.is("n 0", x.feed(9, 0), -1);
        due.is("n 5", x.feed(9, 5), -1);
        for (int n : Tapes.ODD_NUMBERS) {
            due.is("n " + n, x.feed(9, n), -1);
        }
        due.is("length", x.count(0), 3);
        due.is("next", x.feed(0x04000000, 1), 4);
    }

    private static void theLongestTape() {
        BlockTape x = new BlockTape();
        Tapes.feedBytes(x, 0, 296);
        due.is("to 299", x.feed(-1, 3), 299);
        for (int n = 2; n <= 4; n++) {
            due.is("beyond 300 by " + n, x.feed(-1, n), -1);
        }
        due.is("unchanged", x.count(0), 299);
        due.is("to 300", x.feed(0x7B000000, 1), 300);
        due.is("beyond 300", x.feed(-1, 1), -1);
        due.is("full", x.count(0), 300);
        x.put(0, 0);
        x.close();
        due.is("length", x.read(0, 2), 300);
        due.is("byte 295", x.read(0, 4 + 295), 295 & 255);
        due.is("byte 298", x.read(0, 4 + 298), 255);
        due.is("byte 299", x.read(0, 4 + 299), 0x7B);
        due.is("empty again", x.feed(0, 2), 2);
    }
}
