import java.lang.reflect.Method;
import java.lang.reflect.Modifier;
import java.util.ArrayList;
import java.util.Comparator;
import java.util.List;
import java.util.Random;

/** Every call with arguments at and far beyond the edges, in many states, set against the Model. */
public final class ExtremesTest {
    private static final int[] EDGES = {Integer.MIN_VALUE, Integer.MIN_VALUE + 1, -64, -33, -32, -3, -2, -1, 0, 1, 2, 3, 4, 5, 6, 7,
        8, 9, 31, 32, 33, 39, 40, 41, 63, 64, 242, 243, 244, 255, 256, 900, 901, Integer.MAX_VALUE - 1, Integer.MAX_VALUE};
    private static final String[] BOOKS = {
        "",
        "field a;",
        "page x end;",
        "field v;page a : 1 end;page b : 2 3 end;page c end;page a : 4 . end;page d : 7 end;page q end;",
        "field row;field cell of row;field it of cell many;field w many;page x # 1 = 2 # y end;page x # 3 = 4 # y end;",
    };

    public static void main(String[] args) throws ReflectiveOperationException {
        List<Method> calls = new ArrayList<>();
        for (Method m : FieldCutter.class.getDeclaredMethods()) {
            if (Modifier.isPublic(m.getModifiers())) {
                calls.add(m);
            }
        }
        calls.sort(Comparator.comparing(Method::getName));
        Due.due("calls of the face", calls.size(), 39);
        for (int run = 0; run < 400; run++) {
            play(calls, new Random(run * 101L + 3));
        }
        Due.finish("ExtremesTest");
    }

    private static void play(List<Method> calls, Random dice) throws ReflectiveOperationException {
        FieldCutter x = new FieldCutter();
        Model y = new Model();
        String book = BOOKS[dice.nextInt(BOOKS.length)];
        for (int at = 0; at < book.length(); at += 20) {
            int[] n = new int[5];
            for (int k = 0; k < 20; k++) {
                n[k / 4] |= (at + k < book.length() ? book.charAt(at + k) : ' ') << (24 - k % 4 * 8);
            }
            x.feed(n[0], n[1], n[2], n[3], n[4]);
            y.feed(n[0], n[1], n[2], n[3], n[4]);
        }
        Due.due("book()", x.book(), y.book());
        for (int k = 0; k < 400; k++) {
            Method m = calls.get(dice.nextInt(calls.size()));
            boolean drops = m.getName().equals("book") || m.getName().equals("back");
            if (drops && dice.nextInt(20) > 0) {
                continue;
            }
            Object[] with = new Object[m.getParameterCount()];
            StringBuilder call = new StringBuilder(m.getName());
            for (int i = 0; i < with.length; i++) {
                boolean small = dice.nextInt(3) > 0;
                with[i] = small ? dice.nextInt(7) - 1 : EDGES[dice.nextInt(EDGES.length)];
                call.append(' ').append(with[i]);
            }
            Object got = m.invoke(x, with);
            Method twin = Model.class.getDeclaredMethod(m.getName(), m.getParameterTypes());
            Object want = twin.invoke(y, with);
            Due.due(call.append(" in [").append(book).append("]").toString(), got.equals(want), true);
        }
    }
}
