import java.lang.reflect.Constructor;
import java.lang.reflect.Field;
import java.lang.reflect.Method;
import java.lang.reflect.Modifier;
import java.util.Set;
import java.util.TreeSet;

/** The public face is the document's, and nothing beside it can be seen. */
public final class FaceTest {
    public static void main(String[] args) {
        Set<String> want = new TreeSet<>(Set.of(
            "public static final int BlockTape.NONE", "public BlockTape()",
            "public int BlockTape.feed(int,int)", "public int BlockTape.put(int,int)",
            "public boolean BlockTape.close()", "public boolean BlockTape.spoil(int,int,int)",
            "public boolean BlockTape.heal(int)", "public int BlockTape.byteOf(int,int)",
            "public boolean BlockTape.good(int)", "public int BlockTape.read(int,int)",
            "public int BlockTape.verify(int)", "public int BlockTape.count(int)"));
        Set<String> got = new TreeSet<>();
        for (Field f : BlockTape.class.getDeclaredFields()) {
            if (!Modifier.isPrivate(f.getModifiers())) {
                got.add(f.toString());
            }
        }
        for (Constructor<?> c : BlockTape.class.getDeclaredConstructors()) {
            got.add(c.toString());
        }
        for (Method m : BlockTape.class.getDeclaredMethods()) {
            if (!Modifier.isPrivate(m.getModifiers())) {
                got.add(m.toString());
            }
        }
        Due due = new Due();
        if (!got.equals(want)) {
            System.out.println("the face is " + got);
        }
        due.is("the face", got.equals(want), true);
        due.is("final", Modifier.isFinal(BlockTape.class.getModifiers()), true);
        due.is("NONE", BlockTape.NONE, -1);
        due.end();
    }
}
