import java.lang.reflect.InvocationTargetException;
import java.lang.reflect.Method;
import java.lang.reflect.Modifier;
import java.util.ArrayList;
import java.util.Comparator;
import java.util.List;
import java.util.NoSuchElementException;
import java.util.Random;

/** Any arguments in any state: a call throws nothing but what the document names, and only where it does. */
public final class AnyArgumentsTest {
  private static final int[] INTS = {
    0, 1, 2, 3, 4, 5, 6, 7, 8, 9, 10, -1, -2, 40, 41, 76, 77, 80, 81, 99, 100, 200, 201, 999, 1000,
    Integer.MAX_VALUE, Integer.MIN_VALUE, Integer.MIN_VALUE + 1, 65536, -65536, 0x31313131,
  };
  private static final String TEXTS = "19,,;;f-!01239999tpnliqk+-*/<>=()";

  public static void main(String[] args) throws Exception {
    List<Method> face = new ArrayList<>();
    for (Method m : SoldToBehind.class.getDeclaredMethods()) {
      if (Modifier.isPublic(m.getModifiers())) face.add(m);
    }
    face.sort(Comparator.comparing(Method::getName));
    int wrong = 0;
    for (int seed = 0; seed < 300; seed++) {
      Random r = new Random(seed);
      SoldToBehind x = seed % 3 == 0 ? new SoldToBehind() : seed % 3 == 1 ? Probe.eager(1 + r.nextInt(9)).x : Probe.three().x;
      for (int i = 0; i < 512 && wrong < 20; i++) {
        Method m = r.nextInt(3) == 0 ? SoldToBehind.class.getMethod("sign", int.class) : face.get(r.nextInt(face.size()));
        Object[] told = arguments(m, x, r);
        try {
          m.invoke(x, told);
        } catch (InvocationTargetException e) {
          boolean named = m.getExceptionTypes().length == 1;
          if (!named || !(e.getCause() instanceof NoSuchElementException)) {
            wrong++;
            System.out.println("seed " + seed + ": " + m.getName() + java.util.Arrays.toString(told) + " threw " + e.getCause());
          }
        }
      }
    }
    System.out.println("any arguments: " + wrong + " wrong");
    if (wrong > 0) System.exit(1);
  }

  private static Object[] arguments(Method m, SoldToBehind x, Random r) {
    Class<?>[] types = m.getParameterTypes();
    Object[] told = new Object[types.length];
    for (int i = 0; i < types.length; i++) {
      if (types[i] == boolean.class) told[i] = r.nextBoolean();
      else if (types[i] == long.class) told[i] = r.nextBoolean() ? x.line() : r.nextLong() >> r.nextInt(64);
      else if (m.getName().equals("sign")) told[i] = signs(r);
      else told[i] = INTS[r.nextInt(INTS.length)];
    }
    return told;
  }

  private static int signs(Random r) {
    int v = 0;
    for (int i = 0; i < 4; i++) v = v << 8 | (r.nextInt(40) == 0 ? r.nextInt(256) : TEXTS.charAt(r.nextInt(TEXTS.length())));
    return v;
  }
}
