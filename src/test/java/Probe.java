import java.util.BitSet;
import java.util.NoSuchElementException;

/** One object under test, with texts told whole and answers compared; every check names its promise. */
final class Probe {
  private static final BitSet CHECKED = new BitSet();
  private static int wrong = 0;
  private static int checks = 0;

  final SoldToBehind x = new SoldToBehind();

  interface Call {
    long answer();
  }

  /** 0: 10 coins, 2 minutes, -t; 1: 50, 1, -5t; 2: 30, 3, -5t, stubborn. */
  static Probe three() {
    return new Probe().rules("0-t", "0-t*5").people("10,2,0;50,1,1;30,3,1!");
  }

  /** So many rich ones of one minute each, who want the more to stand ahead the greater their number: -p(i+1). */
  static Probe eager(int people) {
    StringBuilder town = new StringBuilder();
    for (int i = 0; i < people; i++) town.append(i == 0 ? "" : ";").append("500,1,0");
    return new Probe().rules("-p*(i+1)").people(town.toString());
  }

  Probe text(String s) {
    x.end(0);
    StringBuilder b = new StringBuilder(s);
    while (b.length() % 4 != 0) b.append('?');
    for (int i = 0; i < b.length(); i += 4) {
      x.sign(b.charAt(i) << 24 | b.charAt(i + 1) << 16 | b.charAt(i + 2) << 8 | b.charAt(i + 3));
    }
    x.end(s.length());
    return this;
  }

  int town(String s) {
    return text(s).x.town();
  }

  int rule(int i, String s) {
    return text(s).x.rule(i);
  }

  Probe people(String s) {
    if (town(s) < 0) throw new IllegalArgumentException(s);
    return this;
  }

  Probe rules(String... all) {
    for (int i = 0; i < all.length; i++) {
      if (rule(i, all[i]) != 0) throw new IllegalArgumentException(all[i]);
    }
    return this;
  }

  Probe law(int sort, int fee, int most, int first) {
    x.law(0, sort);
    x.law(1, fee);
    x.law(2, most);
    x.law(3, first);
    return this;
  }

  void due(int promise, String call, long got, long want) {
    CHECKED.set(promise);
    checks++;
    if (got != want) {
      wrong++;
      System.out.println("promise " + promise + ": " + call + " answered " + got + ", due is " + want);
    }
  }

  void due(int promise, String call, boolean got, boolean want) {
    due(promise, call, got ? 1 : 0, want ? 1 : 0);
  }

  /** The answer and the whole row behind it. */
  void due(int promise, String call, long got, long want, long... row) {
    due(promise, call, got, want);
    due(promise, call + ", numbers of the row", x.count(5), row.length);
    for (int i = 0; i < row.length && i < x.count(5); i++) due(promise, call + ", row " + i, x.row(i), row[i]);
  }

  void none(int promise, String call, Call made) {
    int thrown = 0;
    try {
      made.answer();
    } catch (NoSuchElementException e) {
      thrown = 1;
    }
    due(promise, call + " throws", thrown, 1);
  }

  static void finish(int from, int to) {
    for (int promise = from; promise <= to; promise++) {
      if (!CHECKED.get(promise)) {
        wrong++;
        System.out.println("promise " + promise + " has no test");
      }
    }
    System.out.println(checks + " checks of promises " + from + " to " + to + ", " + wrong + " wrong");
    if (wrong > 0) System.exit(1);
  }
}
