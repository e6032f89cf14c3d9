import java.util.ArrayList;
import java.util.List;
import java.util.NoSuchElementException;

/** One sentence of the document at a time, each with checks of its own; EdgesTest says them all. */
class Edges {
  static final long THROWN = Long.MIN_VALUE;

  private static int promise = 0;
  private static String words = "";
  private static int checks = 0;
  private static int own = 1;
  private static int sentences = 0;
  private static int wrong = 0;

  interface Scene {
    Probe made();
  }

  interface Act {
    long on(SoldToBehind x);
  }

  private static void fault(String what) {
    wrong++;
    System.out.println((promise == 0 ? "Terms" : "promise " + promise) + ", \"" + words + "\": " + what);
  }

  static void says(int of, String quote) {
    if (own == 0) fault("no check");
    promise = of;
    words = quote;
    own = 0;
    sentences++;
    if (!Doc.says(of, quote)) fault("the document does not say so");
  }

  static void finish() {
    if (own == 0) fault("no check");
    for (String left : Doc.unquoted()) {
      wrong++;
      System.out.println("no test quotes " + left);
    }
    System.out.println(checks + " checks of " + sentences + " sentences, " + wrong + " wrong");
    if (wrong > 0) System.exit(1);
  }

  static void is(String call, long got, long want) {
    checks++;
    own++;
    if (got != want) fault(call + " answered " + got + ", due is " + want);
  }

  static void is(String call, boolean got, boolean want) {
    is(call, got ? 1 : 0, want ? 1 : 0);
  }

  /** The answer and the whole ROW behind it. */
  static void tells(Probe p, String call, long got, long want, long... row) {
    is(call, got, want);
    is(call + ", numbers of the row", p.x.count(5), row.length);
    for (int i = 0; i < row.length && i < p.x.count(5); i++) is(call + ", row " + i, p.x.row(i), row[i]);
  }

  static void throwsNone(String call, Probe.Call made) {
    is(call + " throws", answerOf(x -> made.answer(), null) == THROWN, true);
  }

  private static long answerOf(Act act, SoldToBehind x) {
    try {
      return act.on(x);
    } catch (NoSuchElementException e) {
      return THROWN;
    }
  }

  /** Of two objects told the same one gets a call that is refused: all that can be asked then is answered alike. */
  static void refused(Scene scene, String call, long due, Act act) {
    Probe one = scene.made();
    is(call, answerOf(act, one.x), due);
    alike(call, one, scene.made());
  }

  /** As refused(), of a call that reads THE TEXT and so empties it. */
  static void refusedText(Scene scene, String call, long due, Act act) {
    Probe one = scene.made();
    Probe other = scene.made();
    is(call, answerOf(act, one.x), due);
    other.x.end(0);
    alike(call, one, other);
  }

  /** As refused(), of a call that may tell the ROW and nothing else. */
  static void changesNothing(Scene scene, String call, Act act) {
    Probe one = scene.made();
    Probe other = scene.made();
    answerOf(act, one.x);
    one.x.sum();
    other.x.sum();
    alike(call, one, other);
  }

  private static void alike(String call, Probe one, Probe other) {
    List<String> got = exam(one.x);
    List<String> want = exam(other.x);
    checks++;
    own++;
    for (int i = 0; i < want.size(); i++) {
      if (!want.get(i).equals(got.get(i))) {
        fault("behind " + call + ": " + got.get(i) + ", without it " + want.get(i));
        return;
      }
    }
  }

  /** All that can be asked of an object, which is used up by it: some 300 calls. */
  private static List<String> exam(SoldToBehind x) {
    List<String> said = new ArrayList<>();
    for (int what = 0; what < 7; what++) said.add("count(" + what + ") " + x.count(what));
    tellRow(x, said);
    tellPeople(x, said);
    for (int person = 0; person < 9; person++) tellGained(x, said, person);
    said.add("the text as a rule " + x.rule(3) + " of " + x.count(3));
    said.add("sum " + x.sum());
    tellLaw(x, said);
    for (int i = 0; i < 41 && x.count(2) > 0; i++) said.add("undo " + x.undo() + " " + x.line() + " " + x.count(4));
    tellPeople(x, said);
    for (int i = 0; i < 2; i++) {
      said.add("again(" + i + ") " + x.again(i) + " " + x.line() + " " + x.count(4));
      for (int person = 0; person < 3; person++) tellGained(x, said, person);
      tellLaw(x, said);
    }
    said.add("run " + x.run(2, 200) + " " + x.line() + " " + x.seed(0) + " " + x.count(4));
    return said;
  }

  private static void tellRow(SoldToBehind x, List<String> said) {
    for (int i = 0; i < x.count(5); i++) said.add("row(" + i + ") " + x.row(i));
  }

  private static void tellPeople(SoldToBehind x, List<String> said) {
    said.add("line " + x.line());
    for (int person = 0; person < x.count(0); person++) {
      for (int what = 0; what < 7; what++) said.add("of(" + person + ", " + what + ") " + x.of(person, what));
    }
  }

  private static void tellGained(SoldToBehind x, List<String> said, int person) {
    long gained = answerOf(y -> y.gained(person), x);
    said.add("gained(" + person + ") " + gained + (gained == THROWN ? "" : " " + x.row(0) + " " + x.row(1)));
  }

  private static void tellLaw(SoldToBehind x, List<String> said) {
    said.add("law " + x.law(0, 0) + " " + x.law(1, 0) + " " + x.law(2, 99) + " " + x.law(3, 0) + ", R " + x.seed(3));
  }

  // ---- towns that edges are tried in

  /** One was served, sales were made, two lines are kept, there are a law, a text and a row: all that a call could change. */
  static Probe busy() {
    Probe p = new Probe().rules("-p*(i+1)", "0-t*5", "", "q/9-p*9");
    p.people("500,1,0;400,2,0;300,3,1!;200,4,0;100,5,3;50,1,0;f0-3").law(0, 1, 50, 0);
    p.x.keep(0);
    p.x.serve(1);
    p.x.sell(1);
    p.x.sell(2);
    p.x.keep(1);
    p.x.sell(3);
    p.law(1, 2, 40, 0).x.seed(77);
    p.x.sum();
    return p.text("9-p*3");
  }

  /** 0 loses what is told if it sells, 1 gains what is told if it buys. */
  static Probe pair(String loss, String gain, int sellers, int buyers) {
    return new Probe().rules("-p*(" + loss + ")", "-p*(" + gain + ")").people(sellers + ",1,0;" + buyers + ",1,1");
  }

  /**
   * Pairs who change their places for nothing, as often as their purses tell; between the pairs is one who neither sells
   * nor buys. So there are as many lines as the product of all purses, each and one.
   */
  static Probe pairs(int... often) {
    StringBuilder town = new StringBuilder();
    for (int n : often) town.append(town.length() == 0 ? "" : ";0,1,2!;").append(n + ",1,0;" + n + ",1,1");
    return new Probe().rules("-p*(k-k/2*2)*9*(k<q)", "-p*(1-(k-k/2*2))*9*(k<q)").people(town.toString());
  }

  /** One worth told by a rule, to the only one there is, who has 77 coins and takes 3 minutes. */
  static long value(String rule) {
    Probe p = new Probe().people("77,3,0");
    int answer = p.rule(0, rule);
    return answer == 0 ? p.x.worth(0, 0) : THROWN;
  }
}
