import java.lang.reflect.InvocationTargetException;
import java.lang.reflect.Method;
import java.util.ArrayList;
import java.util.HashMap;
import java.util.List;
import java.util.Map;
import java.util.Random;

/** Random runs of calls, each answer and all that can be seen behind it compared with Naive's. */
public final class RandomRunsTest {
  private static final String[] RULES = {
    "0-t", "0-t*5", "-t*l", "0-p*9", "q/9-t", "k*3-t", "9-k-t*2", "(p<2)*50-t*i", "0-t*t/9", "n-p*p", "-(q/50+1)*t",
    "0-t*(k<2)", "-p*(q>30)*7", "100/(p+1)", "0-t*i", "(t>9)*-30-p", "0-t*(9-k)", "q*p-t*9", "-t*99", "-t*(i+1)",
    "p*3", "(p=0)*q", "5*(p<3)-t*k", "-999*999*p", "999*999*999*t", "0-t*(q/100)", "(k-3)*p*5", "0-t*3+k*q/20", "i*i*i-p*i",
    "-p*l*(k<5)", "-t*20*(k<9)", "(p>i)*-40+k", "q-t", "-q*p", "-p*q/9", "-(t+p)*q/99",
  };

  /** By these, who stands behind mostly wants more to stand ahead: many sales. */
  private static final String[] LIVELY = {
    "-t*(i+1)", "-t*(i+1)", "-p*(i+1)", "-t*i*2", "-p*i*i", "-t*(i+1)/(k+1)", "-p*(i+2)*(k<4)", "-t*(9-k)", "-p*(q/9+i)",
    "-t*(q+9)/9", "(k-4)*p*i", "-p*(i*7-k*k)", "-t*(1+(k<2)*i)", "-p*q*(k<6)", "(p<i)*60+k", "-t*i+q/3", "-p*99*(i>k)",
    "q*k-t*(i+1)", "-t*(i+1)-k*9", "(-p*i-q)*3", "-p*(k*7/3+i)", "-t-i*p", "-p*(1-k/2*2)*9",
  };

  private static final Map<String, Method> REAL = new HashMap<>();
  private static final Map<String, Method> NAIVE = new HashMap<>();

  private final Random random;
  private final SoldToBehind real = new SoldToBehind();
  private final Naive naive = new Naive();
  private final List<String> log = new ArrayList<>();
  private boolean wrong = false;
  private boolean lively = false;

  private RandomRunsTest(long seed) {
    random = new Random(seed);
  }

  public static void main(String[] args) throws Exception {
    for (Method m : SoldToBehind.class.getDeclaredMethods()) {
      if (java.lang.reflect.Modifier.isPublic(m.getModifiers())) REAL.put(m.getName(), m);
    }
    for (Method m : Naive.class.getDeclaredMethods()) {
      if (REAL.containsKey(m.getName())
          && java.util.Arrays.equals(m.getParameterTypes(), REAL.get(m.getName()).getParameterTypes())) {
        NAIVE.put(m.getName(), m);
      }
    }
    if (REAL.size() != 46 || NAIVE.size() != 46) {
      System.out.println("46 methods are due, there are " + REAL.size() + " and " + NAIVE.size());
      System.exit(1);
    }
    int runs = args.length > 0 ? Integer.parseInt(args[0]) : 500;
    long from = args.length > 1 ? Long.parseLong(args[1]) : 1;
    int bad = 0;
    for (long seed = from; seed < from + runs && bad < 5; seed++) {
      RandomRunsTest t = new RandomRunsTest(seed);
      t.go();
      if (t.wrong) {
        bad++;
        System.out.println("seed " + seed + ":");
        List<String> l = t.log;
        for (int i = Math.max(0, l.size() - 60); i < l.size(); i++) System.out.println("  " + l.get(i));
      }
    }
    System.out.println(runs + " random runs, " + bad + " wrong");
    if (bad > 0) System.exit(1);
  }

  private Object answer(Method m, Object target, Object[] args) throws Exception {
    try {
      return m.invoke(target, args);
    } catch (InvocationTargetException e) {
      return "throws " + e.getCause().getClass().getSimpleName();
    }
  }

  private Object call(String name, Object... args) throws Exception {
    if (wrong) return 0;
    Object a = answer(REAL.get(name), real, args);
    Object b = answer(NAIVE.get(name), naive, args);
    log.add(name + java.util.Arrays.toString(args) + " = " + b);
    same("answer", a, b);
    int n = naive.count(5);
    same("numbers of the row", real.count(5), n);
    for (int i = 0; i < n && !wrong; i++) same("row " + i, real.row(i), naive.row(i));
    same("line", real.line(), naive.line());
    for (int i = 0; i < 7; i++) same("count " + i, real.count(i), naive.count(i));
    for (int p = 0; p < naive.people; p++) {
      for (int w = 0; w < 7; w++) same("of " + p + " " + w, real.of(p, w), naive.of(p, w));
    }
    return b;
  }

  private void same(String what, Object a, Object b) {
    if (!wrong && !a.equals(b)) {
      wrong = true;
      log.add("WRONG: " + what + " is " + a + ", due is " + b);
    }
  }

  private void text(String s) throws Exception {
    StringBuilder b = new StringBuilder(s);
    while (b.length() % 4 != 0) b.append((char) random.nextInt(256));
    for (int i = 0; i < b.length() && i < 80; i += 4) {
      call("sign", b.charAt(i) << 24 | b.charAt(i + 1) << 16 | b.charAt(i + 2) << 8 | b.charAt(i + 3));
    }
    call("end", s.length());
    log.add("  text '" + s + "'");
  }

  private int r(int n) {
    return random.nextInt(n);
  }

  private String expression(int depth) {
    String s = sum(depth);
    return r(6) == 0 ? s + "<>=".charAt(r(3)) + sum(depth) : s;
  }

  private String sum(int depth) {
    String s = product(depth);
    while (r(3) == 0) s += (r(2) == 0 ? "+" : "-") + product(depth);
    return s;
  }

  private String product(int depth) {
    String s = thing(depth);
    while (r(3) == 0) s += (r(3) > 0 ? "*" : "/") + thing(depth);
    return s;
  }

  private String thing(int depth) {
    String minus = "";
    while (r(5) == 0) minus += "-";
    int k = r(10);
    if (k == 0 && depth < 5) return minus + "(" + expression(depth + 1) + ")";
    if (k < 4) return minus + r(k == 1 ? 1000 : 10);
    return minus + "tpnliqktpt".charAt(r(10));
  }

  private String rule() {
    if (lively && r(8) > 0) return LIVELY[r(LIVELY.length)];
    int k = r(10);
    if (k < 6) return RULES[r(RULES.length)];
    String s = expression(0);
    if (k == 9) s = spoil(s, "tpnliqk0123456789+-*/<>=()x;!f");
    return s.length() > 76 ? s.substring(0, 76) : s;
  }

  private String spoil(String s, String signs) {
    StringBuilder b = new StringBuilder(s);
    for (int n = 1 + r(2); n > 0; n--) {
      int at = r(b.length() + 1);
      if (r(3) == 0 && b.length() > 0) b.deleteCharAt(Math.min(at, b.length() - 1));
      else b.insert(at, r(4) == 0 ? (char) r(256) : signs.charAt(r(signs.length())));
    }
    return b.toString();
  }

  private String town(int people) {
    StringBuilder b = new StringBuilder();
    for (int i = 0; i < people; i++) {
      if (b.length() > 0) b.append(';');
      if (naive.people + i > 1 && r(5) == 0) b.append('f').append(r(naive.people + i)).append('-').append(r(naive.people + i)).append(';');
      b.append(r(3) == 0 ? r(1000) : r(120)).append(',').append(1 + r(r(2) == 0 ? 9 : 3)).append(',').append(r(4));
      if (r(lively ? 25 : 8) == 0) b.append('!');
    }
    return b.toString();
  }

  private void go() throws Exception {
    lively = r(3) > 0;
    for (int i = 0; i < 4; i++) {
      text(rule());
      call("rule", i);
    }
    text(town(lively ? 3 + r(4) : r(7)));
    call("town");
    if (lively && r(4) == 0) {
      text(town(r(4)));
      call("town");
    }
    if (lively && r(3) == 0) call("sheet", 2, 9, 990 + r(11), r(2));
    if (r(3) > 0) call("law", 2, 1 + r(6));
    if (r(2) > 0) call("law", 0, r(3));
    int calls = 30 + r(40);
    for (int i = 0; i < calls && !wrong; i++) step();
  }

  private int person() {
    return r(12) == 0 ? r(12) - 1 : naive.people == 0 ? 0 : r(naive.people);
  }

  private int place() {
    return r(12) == 0 ? r(12) - 1 : naive.now.line.isEmpty() ? 0 : r(naive.now.line.size());
  }

  private int sort() {
    return r(10) == 0 ? r(6) - 1 : new int[] {0, 1, 3}[r(3)];
  }

  private long code() {
    List<Integer> l = new ArrayList<>(naive.now.line);
    if (r(2) == 0 && l.size() > 1) {
      for (int n = 1 + r(4); n > 0; n--) java.util.Collections.swap(l, l.size() - 1, r(l.size()));
    } else if (l.size() > 1) {
      for (int n = 1 + r(3); n > 0; n--) {
        int p = 1 + r(l.size() - 1);
        java.util.Collections.swap(l, p, p - 1);
      }
    }
    long c = 1;
    for (int x : l) c = c * 10 + x;
    int k = r(20);
    return k == 0 ? c + 1 : k == 1 ? c / 10 : k == 2 ? -c : k == 3 ? c * 10 : k == 4 ? random.nextLong() : c;
  }

  private void step() throws Exception {
    int k = r(68);
    if (lively && k < 13 && r(3) > 0) k = 34 + r(34);
    if (k < 34) tellOrSell(k);
    else if (!isDear()) ask(k);
  }

  /** Where the plain way takes too long: very many lines with long rows. */
  private boolean isDear() {
    return naive.now.line.size() > 7 && r(4) > 0;
  }

  private void tellOrSell(int k) throws Exception {
    switch (k) {
      case 0: text(rule()); call("rule", r(15) == 0 ? r(8) - 2 : r(4)); break;
      case 1: if (r(3) == 0) { text(r(3) == 0 ? spoil(town(r(3)), "0123456789,;!f-x") : town(r(4))); call("town"); } break;
      case 2: call("law", r(6) - 1, r(10) == 0 ? r(120) - 5 : r(10)); break;
      case 3: call("law", 0, r(3)); break;
      case 4: call("law", 3, r(4) == 0 ? r(3) : 0); break;
      case 5: call("law", 1, r(2) == 0 ? 0 : r(12)); break;
      case 6: call("sheet", r(6) - 1, r(12) - 1, random.nextInt() >> r(32), random.nextInt() >> r(32)); break;
      case 7: call("sheet", 2, 9, r(200), r(90) - 20); break;
      case 8: call("friend", person(), person(), r(2) == 0); break;
      case 9: call("slow", person(), r(12) - 1); break;
      case 10: case 11: call("comes", person()); break;
      case 12: if (r(3) == 0) call("serve", r(12) - 1); else call("serve", r(3)); break;
      case 13: call("worth", person(), place()); break;
      case 14: case 15: call("can", place()); break;
      case 16: case 17: case 18: call("sell", place()); break;
      case 19: case 20: call("undo"); break;
      case 21: call("judge", r(10), random.nextInt() & (r(2) == 0 ? 0x33333333 : 0x77777777)); break;
      case 22: case 23: call("run", r(4), r(5)); break;
      case 24: call("run", r(7) - 1, r(240) - 10); break;
      case 25: call("open"); break;
      case 26: if (r(8) == 0 || !String.join("", naive.rules).contains("q")) call("walls"); break;
      case 27: call("seed", random.nextInt()); break;
      case 28: call("keep", r(4) - 1); break;
      case 29: call("again", r(4) - 1); break;
      case 30: call("count", r(10) - 1); break;
      case 31: call("row", r(8) - 1); break;
      case 32: call("of", person(), r(9) - 1); break;
      default: call("sum"); break;
    }
  }

  private void ask(int k) throws Exception {
    switch (k) {
      case 34: call("gained", person()); break;
      case 35: call("winner"); break;
      case 36: case 37: call("forward", person()); break;
      case 38: case 39: call("back", person()); break;
      case 40: case 41: call("stand", person()); break;
      case 42: case 43: call("needs", person()); break;
      case 44: case 45: call("lines"); break;
      case 46: case 47: case 48: case 49: call("cheapest", code()); break;
      case 50: case 51: call("paths", code()); break;
      case 52: call("ends", person()); break;
      case 53: call("foremost", person()); break;
      case 54: call("finest"); break;
      case 55: case 56: call("rises"); break;
      case 57: if (naive.now.line.size() < 7 || r(20) == 0) call("order"); break;
      case 58: if (naive.now.line.size() < 7 || r(20) == 0) call("rests"); break;
      case 59: if (naive.now.line.size() < 7 || r(20) == 0) call("places", person()); break;
      case 60: case 61: call("best", sort()); break;
      case 62: call("bear", sort()); break;
      case 63: call("tax", sort()); break;
      case 64: case 65: call("turned", person(), sort()); break;
      default: call("worth", person(), place()); break;
    }
  }
}
