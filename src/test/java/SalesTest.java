/** Promises 13 to 20: sales. */
public final class SalesTest {
  public static void main(String[] args) {
    worth();
    can();
    canBy();
    sell();
    undo();
    judge();
    run();
    runByDraws();
    runBySurplus();
    open();
    walls();
    Probe.finish(13, 20);
  }

  /** Two who change their minds with every sale: 0 wants the first place by odd k, 1 by even k, for 9 each. */
  private static Probe fickle() {
    return new Probe().rules("-p*(k-k/2*2)*9", "-p*(1-(k-k/2*2))*9").people("500,1,0;500,1,1");
  }

  private static void worth() {
    Probe p = Probe.three();
    p.due(13, "worth(0, 1)", p.x.worth(0, 1), -1);
    p.due(13, "worth(1, 0)", p.x.worth(1, 0), 0);
    p.due(13, "worth(1, 2)", p.x.worth(1, 2), -25);
    p.due(13, "worth(2, 2)", p.x.worth(2, 2), -15);
    p.due(13, "worth(2, 1)", p.x.worth(2, 1), -10);
    p.none(13, "worth(0, 3)", () -> p.x.worth(0, 3));
    p.none(13, "worth(0, -1)", () -> p.x.worth(0, -1));
    p.none(13, "worth(3, 0)", () -> p.x.worth(3, 0));
    p.none(13, "worth(-1, 0)", () -> p.x.worth(-1, 0));
    p.x.serve(1);
    p.none(13, "worth(0, 0) of one who was served", () -> p.x.worth(0, 0));
    p.none(13, "worth(1, 2)", () -> p.x.worth(1, 2));
    p.rules("0", "n*100+q+k");
    p.due(13, "worth by n, q, k", p.x.worth(1, 0), 250);
    p.rule(1, "999*999");
    p.due(13, "the most", p.x.worth(1, 0), 9999);
    p.rule(1, "-999*999");
    p.due(13, "the least", p.x.worth(1, 1), -9999);
  }

  private static void can() {
    Probe p = Probe.three();
    p.due(14, "can(1)", p.x.can(1), 1, 10, 1, 1);
    p.due(14, "can(2)", p.x.can(2), 0, 5, 15, 15);
    p.x.sum();
    p.due(14, "can(0)", p.x.can(0), -1, 0, -10, -15);
    p.due(14, "can(3)", p.x.can(3), -1);
    p.due(14, "can(-1)", p.x.can(-1), -1);
    p.x.law(0, 1);
    p.due(14, "half", p.x.can(1), 1, 10, 1, 5);
    p.x.law(0, 2);
    p.due(14, "the gain", p.x.can(1), 1, 10, 1, 10);
    // 0 sells gladly: what it loses is below 0, and so is half of it and a small gain.
    Probe g = new Probe().rules("p*7", "-p*2", "p*3").people("9,1,0;9,1,1");
    g.due(14, "a loss below 0", g.x.can(1), 1, 2, -7, 0);
    g.x.law(0, 1);
    g.due(14, "half of it", g.x.can(1), 1, 2, -7, 0);
    g.rule(1, "p*3");
    g.due(14, "a gain below 0 that is above the loss", g.x.can(1), 0, -3, -7, 0);
    g.rule(1, "-p*8");
    g.due(14, "half of 8 and -7, cut", g.x.can(1), 1, 8, -7, 0);
    g.rule(1, "-p*12");
    g.due(14, "half of 12 and -7, cut", g.x.can(1), 1, 12, -7, 2);
  }

  private static void canBy() {
    Probe p = Probe.eager(3);
    p.due(14, "GAIN is PRICE and FEE", p.law(0, 1, 99, 0).x.can(2), 1, 3, 2, 2);
    p.due(14, "GAIN is less", p.law(0, 2, 99, 0).x.can(2), 0, 3, 2, 2);
    p.law(0, 1, 99, 0).x.sheet(2, 3, 3, 0);
    p.due(14, "PURSE is PRICE and FEE", p.x.can(2), 1, 3, 2, 2);
    p.x.sheet(2, 3, 2, 0);
    p.due(14, "PURSE is less", p.x.can(2), 0, 3, 2, 2);
    p.x.sheet(2, 3, 500, 0);
    p.due(14, "FIRST", p.law(0, 0, 99, 1).x.can(1), 0, 2, 1, 1);
    p.due(14, "behind FIRST", p.x.can(2), 1, 3, 2, 2);
    p.due(14, "MOST of none", p.law(0, 0, 0, 0).x.can(1), 0);
    p.law(0, 0, 1, 0).x.sell(1);
    p.due(14, "MOST of the seller", p.x.can(2), 0, 3, 1, 1);
    p.due(14, "one more", p.law(0, 0, 2, 0).x.can(2), 1);
    Probe q = new Probe().rules("-p*(i+1)").people("5,1,0!;5,1,0;5,1,0");
    q.due(14, "STUBBORN", q.x.can(1), 0, 2, 1, 1);
    q.due(14, "not STUBBORN", q.x.can(2), 1, 3, 2, 2);
    q.rule(0, "-p*9");
    q.due(14, "GAIN is LOSS", q.x.can(2), 0, 9, 9, 9);
    // A stubborn one buys as others do.
    Probe s = new Probe().rules("-p*(i+1)").people("5,1,0;5,1,0!");
    s.due(14, "a stubborn buyer", s.x.can(1), 1, 2, 1, 1);
    // Friends still pay the fee and must gain more than is lost.
    Probe f = Probe.eager(2);
    f.x.friend(0, 1, true);
    f.due(14, "friends", f.law(2, 2, 99, 0).x.can(1), 1, 2, 1, 0);
    f.due(14, "friends, a fee above GAIN", f.law(2, 3, 99, 0).x.can(1), 0, 2, 1, 0);
  }

  private static void sell() {
    Probe p = Probe.three();
    p.due(15, "sell(2)", p.x.sell(2), -2);
    p.due(15, "sell(0)", p.x.sell(0), -1);
    p.due(15, "sell(3)", p.x.sell(3), -1);
    p.due(15, "count(2)", p.x.count(2), 0);
    p.x.law(1, 4);
    p.due(15, "sell(1)", p.x.sell(1), 1);
    p.due(15, "line()", p.x.line(), 1102);
    p.due(15, "the buyer's purse", p.x.of(1, 0), 45);
    p.due(15, "the seller's purse", p.x.of(0, 0), 11);
    p.due(15, "sales of 0", p.x.of(0, 5), 1);
    p.due(15, "sales of 1", p.x.of(1, 5), 1);
    p.due(15, "sales of 2", p.x.of(2, 5), 0);
    p.due(15, "the row stays", p.x.count(5), 0);
    Probe q = Probe.eager(2);
    q.x.sheet(2, 2, 998, 0);
    q.law(2, 0, 99, 0);
    q.due(15, "sell(1)", q.x.sell(1), 2);
    q.due(15, "above 999 is lost", q.x.of(0, 0), 999);
    q.due(15, "count(4)", q.x.count(4), 999 + 996);
  }

  private static void undo() {
    Probe p = Probe.three();
    p.due(16, "undo() of none", p.x.undo(), -1);
    p.x.sell(1);
    p.x.sell(2);
    p.due(16, "line()", p.x.line(), 1120);
    p.due(16, "undo()", p.x.undo(), 1);
    p.due(16, "line()", p.x.line(), 1102);
    p.due(16, "purse of 2", p.x.of(2, 0), 30);
    p.due(16, "sales of 0", p.x.of(0, 5), 1);
    p.due(16, "undo()", p.x.undo(), 0);
    p.due(16, "line()", p.x.line(), 1012);
    p.due(16, "sales of 0", p.x.of(0, 5), 0);
    p.due(16, "undo()", p.x.undo(), -1);
    Probe f = fickle();
    f.due(16, "run(0, 45)", f.x.run(0, 45), 45);
    for (int left = 39; left >= 0; left--) f.due(16, "undo()", f.x.undo(), left);
    f.due(16, "undo() beyond 40", f.x.undo(), -1);
    f.due(16, "sales of 0", f.x.of(0, 5), 5);
    f.due(16, "line()", f.x.line(), 110);
    forgets();
  }

  private static void forgets() {
    Probe p = Probe.three();
    p.x.sell(1);
    p.due(16, "town() refused", p.town("x"), -1);
    p.due(16, "comes() refused", p.x.comes(0), -1);
    p.due(16, "serve() refused", p.x.serve(10), -1);
    p.due(16, "again() refused", p.x.again(0), false);
    p.due(16, "none is forgotten", p.x.count(2), 1);
    p.due(16, "town of nothing", p.town(""), 0);
    p.due(16, "it forgets", p.x.count(2), 0);
    p.x.sell(2);
    p.people("1,1,1");
    p.due(16, "town() forgets", p.x.count(2), 0);
    p.x.keep(0);
    p.x.undo();
    p.x.serve(1);
    p.x.comes(1);
    p.due(16, "comes() forgets", p.x.undo(), -1);
    Probe q = Probe.three();
    q.x.keep(1);
    q.x.sell(1);
    q.due(16, "again(1)", q.x.again(1), true);
    q.due(16, "again() forgets", q.x.undo(), -1);
  }

  private static void judge() {
    Probe p = Probe.eager(3);
    p.due(17, "judge(3, 1 2 1)", p.x.judge(3, 0x121), -2, 1210, 4);
    p.due(17, "judge(3, 2 1 1)", p.x.judge(3, 0x112), 2, 1201, 3);
    p.due(17, "judge(3, 2 2)", p.x.judge(3, 0x122), 1, 1021, 2);
    p.due(17, "judge(0)", p.x.judge(0, 0x121), -2, 1012, 0);
    p.due(17, "judge(1, 0)", p.x.judge(1, 0), 0, 1012, 0);
    p.due(17, "judge(2, 1 3)", p.x.judge(2, 0x31), 1, 1102, 1);
    p.due(17, "judge(1, 15)", p.x.judge(1, -1), 0, 1012, 0);
    p.due(17, "judge(9)", p.x.judge(9, 0), -1);
    p.due(17, "judge(-1)", p.x.judge(-1, 0), -1, 1012, 0);
    p.due(17, "nothing changes", p.x.line(), 1012);
    p.due(17, "nothing changes", p.x.count(2), 0);
    p.due(17, "with fees", p.law(0, 1, 99, 0).x.judge(3, 0x121), -2, 1210, 7);
    Probe f = fickle();
    f.due(17, "8 of them", f.x.judge(8, 0x11111111), -2, 101, 0);
    f.due(17, "the highest bits", f.x.judge(8, 0xF1111111), 7, 110, 0);
    f.due(17, "paid", f.law(2, 0, 99, 0).x.judge(8, 0x11111111), -2, 101, 72);
  }

  private static void run() {
    Probe p = Probe.eager(3);
    p.due(18, "run(0, 0)", p.x.run(0, 0), 0, 0, 0);
    p.due(18, "run(0, 1)", p.x.run(0, 1), 1, 0, 1);
    p.due(18, "line()", p.x.line(), 1102);
    p.x.undo();
    p.due(18, "run(1, 1)", p.x.run(1, 1), 1, 0, 2);
    p.due(18, "line()", p.x.line(), 1021);
    p.due(18, "run(1, 200)", p.x.run(1, 200), 2, 1, 2);
    p.due(18, "line()", p.x.line(), 1210);
    p.due(18, "run(0, 200)", p.x.run(0, 200), 0, 1, 0);
    p.due(18, "count(2)", p.x.count(2), 3);
    p.due(18, "run(4, 1)", p.x.run(4, 1), -1);
    p.due(18, "run(-1, 1)", p.x.run(-1, 1), -1);
    p.due(18, "run(0, 201)", p.x.run(0, 201), -1);
    p.due(18, "run(0, -1)", p.x.run(0, -1), -1, 1, 0);
    Probe f = fickle();
    f.due(18, "to MOST", f.law(2, 0, 99, 0).x.run(0, 200), 99, 1, 99 * 9);
    f.due(18, "sales", f.x.of(1, 5), 99);
    Probe q = Probe.eager(3).law(0, 1, 99, 0);
    q.due(18, "with fees", q.x.run(0, 200), 3, 1, 7);
    q.due(18, "line()", q.x.line(), 1210);
    Probe none = new Probe();
    none.due(18, "of nobody", none.x.run(3, 5), 0, 1, 0);
  }

  private static void runByDraws() {
    // 1103515245 + 12345 by 65536 is 16838, even: the first of two; then there is only one, twice.
    Probe p = Probe.eager(3);
    p.due(18, "run(2, 1)", p.x.run(2, 1), 1, 0, 1);
    p.due(18, "line()", p.x.line(), 1102);
    p.due(18, "R behind one", p.x.seed(1103527590), 1103527590);
    p.due(18, "run(2, 200)", p.x.run(2, 200), 2, 1, 3);
    int r = 1103527590;
    for (int i = 0; i < 2; i++) r = (int) ((r & 0xffffffffL) * 1103515245L + 12345L);
    p.due(18, "R behind two more", p.x.seed(1), r);
    p.x.run(2, 200);
    p.due(18, "no draw where none can be", p.x.seed(1), 1);
    // Whatever R is, the place is the one that its number without sign tells of.
    int[] seeds = {0, 7, -1, 123456789, -2000000000, 99};
    for (int seed : seeds) {
      Probe q = Probe.eager(4);
      q.x.seed(seed);
      long next = (seed * 1103515245L + 12345L) & 0xffffffffL;
      long[] lines = {11023, 10213, 10132};
      q.due(18, "run(2, 1) by " + seed, q.x.run(2, 1), 1);
      q.due(18, "line() by " + seed, q.x.line(), lines[(int) (next / 65536 % 3)]);
    }
  }

  private static void runBySurplus() {
    // Gain less loss is 1 at place 1, 3 at place 2; then 4 at place 1; then 1 at place 2.
    Probe p = new Probe().rules("-p*i*i").people("50,1,0;50,1,0;50,1,0");
    p.due(18, "run(3, 1)", p.x.run(3, 1), 1, 0, 1);
    p.due(18, "line()", p.x.line(), 1021);
    p.due(18, "run(3, 200)", p.x.run(3, 200), 2, 1, 0);
    p.due(18, "line()", p.x.line(), 1210);
    Probe q = Probe.eager(3);
    q.due(18, "the least place of equal ones", q.x.run(3, 1), 1, 0, 1);
    q.due(18, "line()", q.x.line(), 1102);
  }

  private static void open() {
    Probe p = Probe.eager(4);
    p.due(19, "open()", p.x.open(), 14);
    p.x.sell(2);
    p.due(19, "open()", p.x.open(), 10);
    p.x.law(3, 1);
    p.due(19, "open()", p.x.open(), 8);
    p.x.sum();
    p.due(19, "the row stays", p.x.open(), 8, 0, -3, -4, -12);
    p.x.law(3, 0);
    p.x.run(0, 200);
    p.due(19, "at rest", p.x.open(), 0);
    p.due(19, "nobody", new Probe().x.open(), 0);
  }

  private static void walls() {
    Probe p = Probe.three();
    p.due(20, "walls()", p.x.walls(), 1, 2, 4);
    Probe e = Probe.eager(3);
    e.x.sheet(3, 0, 0, 0);
    e.due(20, "with empty purses", e.x.walls(), 2, 6, 0);
    e.due(20, "none can be", e.x.open(), 0);
    e.due(20, "FIRST", e.law(0, 0, 99, 1).x.walls(), 1, 4, 2);
    e.due(20, "MOST", e.law(0, 0, 0, 0).x.walls(), 0, 0, 6);
    e.due(20, "FEE", e.law(0, 2, 99, 0).x.walls(), 0, 0, 6);
    e.x.friend(1, 2, true);
    e.due(20, "FEE, friends", e.x.walls(), 1, 4, 2);
    Probe dear = Probe.eager(4);
    dear.rule(0, "-p*(i+1)*400");
    dear.due(20, "a price above 999", dear.x.walls(), 2, 6, 8);
    Probe s = new Probe().rules("-p*(i+1)").people("0,1,0!;0,1,0;0,1,0");
    s.due(20, "STUBBORN", s.x.walls(), 1, 4, 2);
    // By q: a full purse of the buyer and an empty one of the seller make a sale.
    Probe q = new Probe().rules("-p*q").people("0,1,0;0,1,0");
    q.due(20, "by q", q.x.walls(), 1, 2, 0);
    q.due(20, "none can be", q.x.open(), 0);
    q.due(20, "the purses stay", q.x.count(4), 0);
    // Twice the purse is gained and asked for: no purse gets through.
    Probe w = new Probe().rules("0", "-p*q*2").people("9,1,0;9,1,1").law(2, 0, 99, 0);
    w.due(20, "by q, a wall", w.x.walls(), 0, 0, 2);
    w.due(20, "by q, LOSS is asked for", w.law(0, 0, 99, 0).x.walls(), 1, 2, 0);
    // Only a middling purse gets through: it gains 50 with 40 to 60 coins alone, and pays 50.
    Probe m = new Probe().rules("0", "-p*(q>39)*(61>q)*50").people("0,1,0;0,1,1").law(2, 0, 99, 0);
    m.due(20, "by q, the middle", m.x.walls(), 1, 2, 0);
    m.rule(1, "-p*(q>39)*(50>q)*50");
    m.due(20, "by q, too low", m.x.walls(), 0, 0, 2);
    m.rule(0, "-p*(q-500)*(q-500)");
    m.rule(1, "-p*9");
    m.due(20, "by the seller's q", m.law(0, 0, 99, 0).x.walls(), 1, 2, 0);
    m.due(20, "it can't be now", m.x.can(1), 0);
    m.rules("0", "-p*(q=0)*5");
    m.due(20, "by q, an empty purse alone", m.x.walls(), 1, 2, 0);
    m.rules("0", "-p*(q=999)*5");
    m.due(20, "by q, a full purse alone", m.x.walls(), 1, 2, 0);
    // 1 loses (2 + 3)(2 + 3) - 2 * 2 = 21 by the minutes of 2, who gains 20 or 22.
    Probe t = new Probe().rules("9", "-t*t", "-p*20").people("0,2,0;0,1,1;0,3,2");
    t.due(20, "by minutes", t.x.walls(), 1, 2, 4);
    t.rule(2, "-p*22");
    t.due(20, "by minutes", t.x.walls(), 2, 6, 0);
    Probe none = new Probe();
    none.due(20, "nobody", none.x.walls(), 0, 0, 0);
    Probe flat = new Probe().people("10,2,0;50,1,1");
    flat.due(20, "by no rules", flat.x.walls(), 0, 0, 2);
  }
}
