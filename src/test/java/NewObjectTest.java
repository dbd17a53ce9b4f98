/** Promise 1. */
public final class NewObjectTest {
    public static void main(String[] args) {
        Due due = new Due();
        BlockTape x = new BlockTape();
        for (int what = 0; what <= 5; what++) {
            due.is("count " + what, x.count(what), 0);
        }
        due.is("count 6", x.count(6), 4480);
        due.is("byteOf", x.byteOf(0, 0), -1);
        due.is("good", x.good(0), false);
        due.is("spoil", x.spoil(0, 0, 1), false);
        due.is("heal", x.heal(0), false);
        due.is("read", x.read(0, 0), -1);
        due.is("verify", x.verify(0), -1);
        due.is("close", x.close(), false);

        x.feed(1, 4);
        x.put(1, 1);
        x.feed(1, 4);
        x.close();
        x.spoil(0, 0, 1);
        BlockTape other = new BlockTape();
        due.is("another object's tape", other.count(0), 0);
        due.is("another object's records", other.count(1), 0);
        due.is("another object's blocks", other.count(2), 0);
        due.is("the first put", other.put(0, 0), 0);
        due.is("its close", other.close(), true);
        due.is("its block", other.good(0), true);
        due.end();
    }
}
