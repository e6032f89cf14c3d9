/** Promises 42 to 47: kept. */
public final class KeptTest {
  public static void main(String[] args) {
    seed();
    keepAndAgain();
    againRefused();
    whatIsNotKept();
    count();
    line();
    row();
    Probe.finish(42, 47);
  }

  private static void seed() {
    Probe p = new Probe();
    p.due(42, "seed(7)", p.x.seed(7), 1);
    p.due(42, "seed(min)", p.x.seed(Integer.MIN_VALUE), 7);
    p.due(42, "seed(0)", p.x.seed(0), Integer.MIN_VALUE);
    p.due(42, "seed(1)", p.x.seed(1), 0);
  }

  private static void keepAndAgain() {
    Probe p = Probe.eager(3);
    p.x.sell(1);
    p.law(1, 2, 50, 1).x.seed(77);
    p.due(43, "keep(0)", p.x.keep(0), true);
    p.due(43, "keep(-1)", p.x.keep(-1), false);
    p.due(43, "keep(2)", p.x.keep(2), false);
    p.due(43, "it forgets no sales", p.x.count(2), 1);
    p.law(2, 9, 9, 9).x.seed(5);
    p.x.sheet(3, 0, 0, 0);
    p.x.serve(2);
    p.x.comes(0);
    p.due(43, "keep(1)", p.x.keep(1), true);
    p.due(44, "again(0)", p.x.again(0), true);
    p.due(44, "line()", p.x.line(), 1102);
    p.due(44, "purses", p.x.of(1, 0), 499);
    p.due(44, "sales", p.x.of(0, 5), 1);
    p.due(44, "the line as it came", p.x.gained(1), 1, 2, -1);
    p.due(44, "sales are forgotten", p.x.count(2), 0);
    p.due(44, "R", p.x.seed(1), 77);
    p.due(44, "sort", p.x.law(0, 0), 1);
    p.due(44, "FEE", p.x.law(1, 0), 2);
    p.due(44, "MOST", p.x.law(2, 0), 50);
    p.due(44, "FIRST", p.x.law(3, 0), 1);
    p.due(44, "again(1)", p.x.again(1), true);
    p.due(44, "line()", p.x.line(), 120);
    p.due(44, "R", p.x.seed(1), 5);
    p.due(44, "FEE", p.x.law(1, 0), 9);
    p.due(44, "count(4)", p.x.count(4), 0);
    p.due(44, "again(0) once more", p.x.again(0), true);
    p.due(44, "line()", p.x.line(), 1102);
    // Kept anew, the older one is gone; what was kept is not changed by what comes.
    p.due(43, "keep(1)", p.x.keep(1), true);
    p.law(0, 0, 99, 0).x.run(0, 200);
    p.due(44, "again(1)", p.x.again(1), true);
    p.due(44, "line()", p.x.line(), 1102);
    p.due(44, "sales", p.x.of(2, 5), 0);
  }

  private static void againRefused() {
    Probe p = Probe.three();
    p.due(44, "again(0) of nothing", p.x.again(0), false);
    p.due(44, "again(-1)", p.x.again(-1), false);
    p.due(44, "again(2)", p.x.again(2), false);
    p.x.keep(0);
    p.x.sell(1);
    p.due(44, "again(1) of nothing", p.x.again(1), false);
    p.due(44, "refused, it changes nothing", p.x.line(), 1102);
    p.due(44, "refused, it forgets nothing", p.x.count(2), 1);
    p.town("f0-1");
    p.town("");
    p.town("x");
    p.due(44, "no one was told since", p.x.again(0), true);
    p.due(44, "line()", p.x.line(), 1012);
    p.people("1,1,1");
    p.due(44, "one was told since", p.x.again(0), false);
    p.due(44, "line()", p.x.line(), 10123);
    p.x.keep(0);
    p.due(44, "kept since", p.x.again(0), true);
    Probe none = new Probe();
    none.due(43, "keep(1) of nobody", none.x.keep(1), true);
    none.due(44, "again(1) of nobody", none.x.again(1), true);
    none.people("1,1,1");
    none.due(44, "one was told since", none.x.again(1), false);
  }

  private static void whatIsNotKept() {
    Probe p = Probe.three();
    p.x.keep(0);
    p.x.slow(0, 7);
    p.x.friend(0, 1, true);
    p.rule(2, "5");
    p.x.sum();
    p.text("ab");
    p.x.again(0);
    p.due(44, "longs stay", p.x.of(0, 1), 7);
    p.due(44, "friends stay", p.x.of(0, 6), 2);
    p.due(44, "rules stay", p.x.count(3), 7);
    p.due(44, "the row stays", p.x.count(5), 3);
    p.due(44, "the text stays", p.x.count(6), 2);
  }

  private static void count() {
    Probe p = Probe.three();
    p.x.sell(1);
    p.x.sum();
    p.rule(3, "1");
    p.text("abcde");
    p.x.sell(2);
    p.people(p.x.end(0) ? "5,5,2" : "");
    p.x.serve(1);
    p.text("abcde");
    long[] all = {4, 3, 0, 11, 95, 2, 5};
    for (int what = 0; what < 7; what++) p.due(45, "count(" + what + ")", p.x.count(what), all[what]);
    p.due(45, "count(7)", p.x.count(7), -1);
    p.due(45, "count(-1)", p.x.count(-1), -1);
    Probe q = Probe.three();
    q.x.sell(1);
    q.x.sell(2);
    q.due(45, "sales that can be undone", q.x.count(2), 2);
  }

  private static void line() {
    Probe p = new Probe();
    p.due(46, "nobody", p.x.line(), 1);
    p.people("1,1,1");
    p.due(46, "one", p.x.line(), 10);
    Probe nine = Probe.eager(9);
    nine.due(46, "nine", nine.x.line(), 1012345678L);
    nine.x.run(0, 200);
    nine.due(46, "nine, turned round", nine.x.line(), 1876543210L);
    nine.x.serve(8);
    nine.due(46, "the last", nine.x.line(), 10);
  }

  private static void row() {
    Probe p = Probe.three();
    p.none(47, "row(0)", () -> p.x.row(0));
    p.x.sum();
    p.due(47, "row(0)", p.x.row(0), 0);
    p.due(47, "row(2)", p.x.row(2), -15);
    p.none(47, "row(3)", () -> p.x.row(3));
    p.none(47, "row(-1)", () -> p.x.row(-1));
    // Calls that are refused, or tell no row, leave it.
    p.x.can(9);
    p.x.serve(10);
    p.x.forward(9);
    p.x.open();
    p.x.sell(2);
    p.x.best(2);
    p.due(47, "row(2)", p.x.row(2), -15);
    p.x.back(0);
    p.due(47, "row(0)", p.x.row(0), 4);
    p.none(47, "row(1) of one number", () -> p.x.row(1));
  }
}
