/** Promises 21 to 27: what comes of it. */
public final class OutcomeTest {
  public static void main(String[] args) {
    sum();
    gained();
    winner();
    forward();
    back();
    stand();
    needs();
    Probe.finish(21, 27);
  }

  private static void sum() {
    Probe p = Probe.three();
    p.due(21, "sum()", p.x.sum(), -25, 0, -10, -15);
    p.x.sell(1);
    p.due(21, "sum()", p.x.sum(), -16, 0, -1, -15);
    Probe none = new Probe();
    none.x.walls();
    none.due(21, "sum() of nobody", none.x.sum(), 0, new long[0]);
    Probe nine = Probe.eager(9);
    nine.due(21, "sum() of nine", nine.x.sum(), -240, 0, -2, -6, -12, -20, -30, -42, -56, -72);
    Probe none9 = new Probe().people("1,1,3;2,2,2");
    none9.due(21, "by no rules", none9.x.sum(), 0, 0, 0);
  }

  private static void gained() {
    Probe p = Probe.three();
    p.due(22, "gained(0) ahead of all", p.x.gained(0), 0, 0, 0);
    p.x.sell(1);
    p.due(22, "gained(0)", p.x.gained(0), 0, -1, 1);
    p.due(22, "gained(1)", p.x.gained(1), 9, 10, -1);
    p.due(22, "gained(2)", p.x.gained(2), 0, 0, 0);
    p.none(22, "gained(3)", () -> p.x.gained(3));
    p.none(22, "gained(-1)", () -> p.x.gained(-1));
    p.x.sheet(2, 3, 100, 0);
    p.due(22, "by a sheet", p.x.gained(0), 89, -1, 90);
    p.x.serve(1);
    p.none(22, "gained(1) of one who was served", () -> p.x.gained(1));
    p.due(22, "gained(0) behind serve()", p.x.gained(0), 0, 0, 0);
    // k is as now both times, q is as then.
    Probe k = new Probe().rules("0-t", "k*10-t*5").people("10,2,0;50,1,1");
    k.x.sell(1);
    k.due(22, "by k", k.x.gained(1), 9, 10, -1);
    Probe q = new Probe().rules("0-t", "q-t*5").people("10,2,0;50,1,1");
    q.x.sell(1);
    q.due(22, "by q", q.x.gained(1), 8, 9, -1);
    q.x.undo();
    q.due(22, "undone", q.x.gained(1), 0, 0, 0);
    // The longs are as now both times: then 1 had 9 minutes ahead.
    q.x.sell(1);
    q.x.slow(0, 9);
    q.due(22, "by longs", q.x.gained(1), 43, 44, -1);
    sinceTheTown();
  }

  /** Only a text that tells of the town makes the line as it is the one that came. */
  private static void sinceTheTown() {
    Probe p = Probe.three();
    p.x.sell(1);
    p.due(22, "town of nothing", p.town(""), 0);
    p.due(22, "behind a town of nothing", p.x.gained(1), 9, 10, -1);
    p.due(22, "a wrong town", p.town("1,1,1;x"), -7);
    p.due(22, "behind a wrong town", p.x.gained(0), 0, -1, 1);
    p.due(23, "winner() behind a town of nothing", p.x.winner(), 1, 9, 2);
    p.people("f0-1");
    p.due(22, "behind friends", p.x.gained(1), 0, 0, 0);
    p.x.sheet(3, 0, 0, 0);
    p.due(22, "by a sheet", p.x.gained(1), -49, 0, -49);
    p.people("");
    p.due(22, "by a sheet, behind a town of nothing", p.x.gained(1), -49, 0, -49);
    p.people("5,1,0");
    p.due(22, "behind one more", p.x.gained(1), 0, 0, 0);
    // What is kept has the line as it came with it, whatever was told of nothing since.
    Probe k = Probe.three();
    k.x.sell(1);
    k.people("");
    k.x.keep(0);
    k.x.serve(0);
    k.due(22, "behind serve(0)", k.x.gained(1), 0, 0, 0);
    k.due(44, "again(0)", k.x.again(0), true);
    k.due(22, "behind again()", k.x.gained(1), 9, 10, -1);
  }

  private static void winner() {
    Probe p = Probe.three();
    p.due(23, "winner() ahead of all", p.x.winner(), 0, 0, 3);
    p.x.sell(1);
    p.due(23, "winner()", p.x.winner(), 1, 9, 2);
    // 1 pays all it gains to 0: the first of equal ones is now 1, and both gained nothing.
    Probe q = Probe.eager(2);
    q.x.friend(0, 1, true);
    q.x.sell(1);
    q.due(23, "all to the buyer", q.x.winner(), 1, 2, 1);
    q.x.undo();
    q.x.friend(0, 1, false);
    q.law(2, 0, 99, 0).x.sell(1);
    q.due(23, "all to the seller", q.x.winner(), 0, 1, 1);
    Probe l = Probe.eager(2);
    l.x.sheet(3, 0, 0, 0);
    l.due(23, "all lost, equal ones", l.x.winner(), 0, -500, 2);
    Probe none = new Probe();
    none.x.walls();
    none.due(23, "nobody", none.x.winner(), -2, 0, 0);
  }

  private static void forward() {
    Probe p = Probe.eager(4);
    p.due(24, "forward(3)", p.x.forward(3), 0, 6, 494);
    p.due(24, "forward(0)", p.x.forward(0), 0, 0, 500);
    p.due(24, "with fees", p.law(0, 1, 99, 0).x.forward(3), 0, 9, 491);
    p.due(24, "MOST", p.law(0, 0, 2, 0).x.forward(3), 1, 5, 495);
    p.due(24, "FIRST", p.law(0, 0, 99, 1).x.forward(3), 1, 5, 495);
    p.law(0, 0, 99, 0).x.sheet(2, 4, 1, 1);
    p.due(24, "a small purse", p.x.forward(3), 2, 3, 1);
    p.due(24, "nothing changes", p.x.line(), 10123);
    p.due(24, "nothing changes", p.x.of(3, 0), 4);
    p.due(24, "nothing changes", p.x.count(2), 0);
    p.due(24, "forward(4)", p.x.forward(4), -1);
    p.due(24, "forward(-1)", p.x.forward(-1), -1);
    p.x.serve(1);
    p.due(24, "forward(0) of one who was served", p.x.forward(0), -1);
  }

  private static void back() {
    Probe p = Probe.eager(4);
    p.due(25, "back(0)", p.x.back(0), 3, 3);
    p.due(25, "back(1)", p.x.back(1), 3, 4);
    p.due(25, "back(3)", p.x.back(3), 3, 0);
    p.due(25, "by GAIN", p.law(2, 0, 99, 0).x.back(0), 3, 9);
    p.due(25, "MOST", p.law(2, 0, 2, 0).x.back(0), 2, 5);
    p.due(25, "FIRST", p.law(2, 0, 99, 1).x.back(0), 0, 0);
    p.due(25, "fees are not got", p.law(0, 1, 99, 0).x.back(0), 3, 3);
    p.due(25, "nothing changes", p.x.line(), 10123);
    p.due(25, "nothing changes", p.x.count(4), 2000);
    p.due(25, "back(4)", p.x.back(4), -1);
    p.due(25, "back(-1)", p.x.back(-1), -1, 3);
  }

  private static void stand() {
    Probe p = Probe.eager(4);
    p.x.serve(1);
    p.due(26, "stand(0)", p.x.stand(0), 0, 3, 3);
    p.due(26, "by GAIN", p.law(2, 0, 99, 0).x.stand(0), 0, 9, 3);
    p.due(26, "MOST", p.law(2, 0, 1, 0).x.stand(0), 2, 4, 3);
    p.due(26, "FIRST", p.law(0, 0, 99, 2).x.stand(0), 2, 1, 3);
    p.due(26, "stand(1), who is there", p.x.stand(1), -1);
    p.due(26, "stand(4)", p.x.stand(4), -1);
    p.due(26, "stand(-1)", p.x.stand(-1), -1, 1, 3);
    p.due(26, "nothing changes", p.x.line(), 1123);
    // Who never sells stands best at the end.
    Probe s = new Probe().rules("-p*(i+1)").people("5,1,0!;5,1,0;5,1,0");
    s.x.serve(1);
    s.due(26, "one who is stubborn", s.x.stand(0), 2, 0, 2);
    s.x.serve(2);
    s.due(26, "to an empty line", s.x.stand(1), 0, 0, 0);
    // There is one more in the line then: worth by n.
    Probe n = new Probe().rules("-p*(i+n-2)").people("5,1,0;5,1,0");
    n.x.serve(1);
    n.due(26, "by n", n.x.stand(0), 1, 0, 1);
    n.rule(0, "-p*(i+n)");
    n.due(26, "by n", n.x.stand(0), 0, 2, 1);
  }

  private static void needs() {
    Probe p = Probe.eager(4);
    p.due(27, "needs(3)", p.x.needs(3), 6, 6);
    p.due(27, "needs(1)", p.x.needs(1), 1, 1);
    p.due(27, "needs(0)", p.x.needs(0), 0, 0);
    p.due(27, "with fees", p.law(0, 1, 99, 0).x.needs(3), 9, 9);
    p.due(27, "FIRST", p.law(0, 0, 99, 1).x.needs(3), -2, 9);
    p.law(0, 0, 99, 0).x.sheet(3, 0, 0, 0);
    p.due(27, "with an empty purse", p.x.needs(3), 6, 6);
    p.due(27, "nothing changes", p.x.count(4), 0);
    p.due(27, "needs(4)", p.x.needs(4), -1);
    p.due(27, "needs(-1)", p.x.needs(-1), -1);
    p.rule(0, "-p*(i+1)*200");
    p.due(27, "999 is not enough", p.x.needs(3), -2);
    p.due(27, "600 is", p.x.needs(2), 600, 600);
    // Half the purse must be above 30, the price.
    Probe q = new Probe().rules("-p*30", "-p*q/2").people("0,1,0;0,1,1");
    q.due(27, "by q", q.x.needs(1), 62, 30);
    q.rule(1, "-p*(q=77)*99");
    q.due(27, "by q, one purse alone", q.x.needs(1), 77, 30);
    q.rule(1, "-p*(q=7)*99");
    q.due(27, "by q, none", q.x.needs(1), -2, 30);
    Probe s = new Probe().rules("-p*(i+1)").people("5,1,0!;5,1,0;5,1,0");
    s.due(27, "one who is stubborn ahead", s.x.needs(2), -2);
  }
}
