/** Promises 38 to 41: laws. */
public final class LawsTest {
  public static void main(String[] args) {
    best();
    bestAtTheEdge();
    bear();
    tax();
    turned();
    wrongSorts();
    runsOf200();
    Probe.finish(38, 41);
  }

  private static void best() {
    Probe p = Probe.three();
    p.due(38, "best(0)", p.x.best(0), -9, 0, 0, 2);
    Probe e = Probe.eager(3);
    e.due(38, "best(0)", e.x.best(0), -4, 0, 0, 2);
    e.due(38, "best(1)", e.x.best(1), -4, 0, 0, 2);
    e.due(38, "best(3)", e.x.best(3), -4, 0, 0, 2);
    e.law(2, 50, 0, 0);
    e.due(38, "whatever THE LAW is", e.x.best(0), -4, 0, 0, 2);
    e.due(38, "nothing changes", e.x.law(0, 2), 2);
    e.due(38, "nothing changes", e.x.law(1, 50), 50);
    e.due(38, "nothing changes", e.x.law(2, 0), 0);
    e.due(38, "nothing changes", e.x.line(), 1012);
    e.due(38, "FIRST is as it is", e.law(0, 0, 99, 1).x.best(0), -7, 0, 0, 1);
    Probe none = new Probe().people("5,1,0;5,1,0");
    none.due(38, "the first of equal ones", none.x.best(0), 0, 0, 0, 0);
    Probe five = Probe.eager(5);
    five.due(38, "MOST 99, as 3 is too few", five.x.best(0), -20, 0, 0, 99);
    // One sale would gain 9 by the place and lose 20 by k.
    Probe k = new Probe().rules("0", "-p*9-k*20").people("5,1,0;4,1,1");
    k.due(38, "no sale is best", k.x.best(0), -9, 0, 0, 0);
    // 2 loses 20 by k if it buys for its 2 coins; a fee of 1 keeps it away, and 1 still buys.
    Probe f = new Probe().rules("-p*(i+1)", "-p*9-k*20").people("5,1,0;9,1,0;2,1,1");
    f.due(38, "a fee that keeps one away", f.x.best(1), -19, 0, 1, 1);
    f.due(38, "none is needed from the front", f.x.best(0), -19, 0, 0, 1);
  }

  /**
   * 1 buys of its friend 0, which is good. 3 buys of its friend 2 and 5 of 4, which both is bad by k. By GAIN and a fee
   * 5 does not; 3 does as long as it has the fee.
   */
  private static void bestAtTheEdge() {
    Probe p = new Probe().rules("0", "-p*50", "-p*50-k*900");
    p.people("0,1,0;500,1,1;0,1,0;8,1,2;0,1,0;500,1,2;f0-1;f2-3");
    p.due(38, "the last sort, the greatest fee", p.x.best(0), -400, 2, 9, 1);
    p.x.sheet(2, 6, 9, 0);
    p.due(38, "no greater fee is tried", p.x.best(0), -450, 0, 0, 0);
  }

  /** They change their minds with every sale, and there are more than 200 of them. */
  private static void runsOf200() {
    Probe p = new Probe().rules("-p*(k-k/2*2)*9", "-p*(1-(k-k/2*2))*9");
    p.people("500,1,0;500,1,1;500,1,0!;500,1,0;500,1,1;500,1,0!;500,1,0;500,1,1");
    p.due(39, "run() of 200", p.x.bear(0), 9, 200, 1800);
    p.due(40, "run() of 200", p.x.tax(0), 9, 1800, 200);
    p.due(18, "run(0, 200)", p.x.run(0, 200), 200, 0, 0);
    p.due(18, "97 more", p.x.run(0, 200), 97, 1, 0);
  }

  private static void bear() {
    Probe e = Probe.eager(3);
    e.due(39, "bear(0)", e.x.bear(0), 1, 3, 3);
    e.due(39, "bear(1)", e.x.bear(1), 1, 3, 3);
    e.law(0, 77, 99, 0);
    e.due(39, "whatever FEE is", e.x.bear(3), 1, 3, 3);
    e.due(39, "nothing changes", e.x.law(1, 0), 77);
    e.due(39, "by GAIN", e.law(2, 0, 99, 0).x.bear(0), 0, 3, 0);
    e.due(39, "without sales", e.law(0, 0, 0, 0).x.bear(0), 99, 0, 0);
    Probe p = Probe.three();
    p.due(39, "bear(0)", p.x.bear(0), 7, 2, 14);
    p.due(39, "nothing changes", p.x.line(), 1012);
    // Even with 99 it is bought.
    Probe r = new Probe().rules("0", "-p*900").people("5,1,0;500,1,1");
    r.due(39, "the greatest", r.x.bear(0), 99, 1, 99);
  }

  private static void tax() {
    Probe e = Probe.eager(3);
    e.due(40, "tax(0)", e.x.tax(0), 1, 3, 3);
    e.due(40, "tax(3)", e.x.tax(3), 1, 3, 3);
    e.law(2, 77, 99, 0);
    e.due(40, "by GAIN", e.x.tax(0), 0, 0, 3);
    e.due(40, "nothing changes", e.x.law(1, 0), 77);
    e.due(40, "without sales", e.law(0, 0, 0, 0).x.tax(0), 0, 0, 0);
    Probe p = Probe.three();
    p.due(40, "tax(0)", p.x.tax(0), 7, 14, 2);
    p.due(40, "nothing changes", p.x.line(), 1012);
    // Two sales bear 10, one of them bears 20: both bring 20, and 10 is the least; if it bears 21, it brings more.
    Probe t = new Probe().rules("0", "-p*10", "-p*20").people("0,1,0;50,1,1;0,1,0;20,1,2").law(0, 0, 1, 0);
    t.due(40, "the least of equal ones", t.x.tax(0), 10, 20, 2);
    t.rule(2, "-p*21");
    t.x.sheet(2, 4, 0, 21);
    t.due(40, "fewer sales bring more", t.x.tax(0), 21, 21, 1);
  }

  private static void turned() {
    Probe e = Probe.eager(3);
    e.due(41, "turned(0, 0)", e.x.turned(0, 0), -3);
    e.due(41, "turned(2, 0)", e.x.turned(2, 0), 0);
    e.due(41, "turned(1, 3)", e.x.turned(1, 3), -1);
    e.due(41, "nothing changes", e.x.of(0, 3), 0);
    e.due(41, "nothing changes", e.x.line(), 1012);
    e.x.walls();
    e.due(41, "the row stays", e.x.turned(0, 1), -3, 6, 0);
    e.due(41, "turned(3, 0)", e.x.turned(3, 0), -1);
    e.due(41, "turned(-1, 0)", e.x.turned(-1, 0), -1);
    Probe s = new Probe().rules("-p*(i+1)").people("500,1,0!;500,1,0;500,1,0");
    s.due(41, "not stubborn any more", s.x.turned(0, 0), 3);
    s.due(41, "nothing changes", s.x.of(0, 3), 1);
    s.x.serve(1);
    s.due(41, "one who was served", s.x.turned(0, 0), -1);
  }

  private static void wrongSorts() {
    Probe p = Probe.eager(3);
    p.x.walls();
    for (int sort : new int[] {-1, 2, 4, 99}) {
      p.due(38, "best(" + sort + ")", p.x.best(sort), -1);
      p.due(39, "bear(" + sort + ")", p.x.bear(sort), -1);
      p.due(40, "tax(" + sort + ")", p.x.tax(sort), -1);
      p.due(41, "turned(0, " + sort + ")", p.x.turned(0, sort), -1, 6, 0);
    }
  }
}
