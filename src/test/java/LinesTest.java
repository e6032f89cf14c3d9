/** Promises 28 to 34: all lines that can come. */
public final class LinesTest {
  public static void main(String[] args) {
    lines();
    cheapest();
    cheapestOfEqual();
    codes();
    paths();
    ends();
    foremost();
    finest();
    rises();
    tooMany();
    changesBetween();
    Probe.finish(28, 34);
  }

  /**
   * The more sales one had, the more it wants to stand ahead: -p(i+1)(k+1). To 210 one comes by places 1 2 1 for 1, 2,
   * 4 or by 2 1 2 for 2, 1, 2, with other purses.
   */
  private static Probe growing() {
    return new Probe().rules("-p*(i+1)*(k+1)").people("500,1,0;500,1,0;500,1,0");
  }

  private static void lines() {
    Probe p = Probe.eager(3);
    p.due(28, "lines()", p.x.lines(), 6, 6, 1, 3, 3);
    p.due(28, "nothing changes", p.x.line(), 1012);
    p.due(28, "nothing changes", p.x.count(2), 0);
    p.due(28, "MOST", p.law(0, 0, 1, 0).x.lines(), 3, 3, 2, 1, 1);
    p.due(28, "one is at rest", p.law(0, 0, 0, 0).x.lines(), 1, 1, 1, 0, 0);
    Probe g = growing();
    g.due(28, "like lines with other purses", g.x.lines(), 7, 6, 2, 3, 3);
    Probe five = Probe.eager(5);
    five.due(28, "five", five.x.lines(), 120, 120, 1, 10, 10);
    Probe nobody = new Probe();
    nobody.due(28, "nobody", nobody.x.lines(), 1, 1, 1, 0, 0);
    // 0 has nothing: it sells, then 2 can't buy of 1, or 2 buys first and 1 can't.
    Probe u = Probe.eager(3);
    u.x.sheet(2, 3, 1, 0);
    u.due(28, "poor ones", u.x.lines(), 3, 3, 1, 2, 2);
    // 1 never sells, so it stays ahead of 2 and 3: a third of all 24 orders.
    Probe d = new Probe().rules("-p*(i+1)").people("5,1,0;5,1,0!;2,1,0;5,1,0");
    d.due(28, "one who is stubborn", d.x.lines(), 8, 8, 1, 4, 4);
  }

  private static void cheapest() {
    Probe p = Probe.eager(3);
    p.due(29, "cheapest(1210)", p.x.cheapest(1210), 4, 1, 2, 1);
    p.due(29, "cheapest(1201)", p.x.cheapest(1201), 3, 2, 1);
    p.due(29, "cheapest(1120)", p.x.cheapest(1120), 2, 1, 2);
    p.due(29, "cheapest(1012)", p.x.cheapest(1012), 0, new long[0]);
    p.due(29, "with fees", p.law(0, 1, 99, 0).x.cheapest(1210), 7, 1, 2, 1);
    p.due(29, "MOST", p.law(0, 0, 1, 0).x.cheapest(1210), -2, 1, 2, 1);
    p.due(29, "cheapest(1021)", p.x.cheapest(1021), 2, 2);
    p.due(29, "nothing changes", p.x.line(), 1012);
    Probe g = growing();
    g.due(29, "the cheaper way", g.x.cheapest(1210), 5, 2, 1, 2);
    Probe five = Probe.eager(5);
    five.due(29, "the first 8 of 10", five.x.cheapest(143210), 20, 1, 2, 1, 3, 2, 1, 4, 3);
    Probe nobody = new Probe();
    nobody.due(29, "nobody", nobody.x.cheapest(1), 0, new long[0]);
  }

  private static void cheapestOfEqual() {
    // Friends pay nothing: of all rows to 3210 the least.
    Probe f = Probe.eager(4);
    for (int i = 0; i < 4; i++) for (int j = 0; j < i; j++) f.x.friend(i, j, true);
    f.due(29, "of equal ones the least row", f.x.cheapest(13210), 0, 1, 2, 1, 3, 2, 1);
    // They change their minds with every sale and pay nothing: the fewest sales tell.
    Probe k = new Probe().rules("-p*(k-k/2*2)*9", "-p*(1-(k-k/2*2))*9").people("500,1,0;500,1,1");
    k.x.law(2, 9);
    k.due(29, "of equal ones the fewest", k.x.cheapest(110), 0, 1);
    k.due(29, "none is fewest", k.x.cheapest(101), 0, new long[0]);
    k.due(30, "rows of 1, 3, 5, 7, 9 sales", k.x.paths(110), 5, 1);
    k.due(30, "rows of 0, 2, 4, 6, 8 sales", k.x.paths(101), 5, 1);
    k.due(28, "by ten", k.x.lines(), 10, 2, 1, 9, 9);
    fullPurses();
  }

  /** What full purses lose makes like lines dearer or cheaper: found by trying many towns, due by Naive too. */
  private static void fullPurses() {
    Probe p = new Probe().rules("-p*i*i", "-p*(i*3-k)", "-p*(i+1)*(k+1)");
    p.people("999,2,0;997,2,0;999,2,1;997,1,2").law(1, 0, 5, 0);
    p.due(29, "the least row of equal ends", p.x.cheapest(13210), 19, 1, 2, 3, 2, 1, 2);
    Probe q = new Probe().rules("-p*(i+1)", "-p*(i*3-k)", "-p*(i*3-k)", "-p*(i*3-k)");
    q.people("999,1,3;999,2,0;999,1,0;996,2,3").law(1, 1, 3, 0);
    q.due(29, "the least row of equal ends", q.x.cheapest(13210), 22, 1, 2, 3, 2, 1, 2);
    Probe r = new Probe().rules("-p*(i+1+k*2)", "-p*(i+1+k*2)", "-p*(i+1)/(k+1)", "-t*i");
    r.people("999,1,3;997,2,3;4,1,2;998,2,0").law(1, 1, 3, 0);
    r.due(29, "the least row to one end", r.x.cheapest(13120), 16, 1, 3, 2, 1, 3);
  }

  private static void codes() {
    Probe p = Probe.eager(3);
    long[] wrong = {0, 1, -1, 12, 102, 1122, 1002, 112, 1013, 2012, 11012, 21012, -1012, 10120, 1112, 11210,
        Long.MAX_VALUE, Long.MIN_VALUE, 1012L << 32, (1L << 32) + 1012, 10000000000L + 12};
    for (long code : wrong) {
      p.due(29, "cheapest(" + code + ")", p.x.cheapest(code), -1);
      p.due(30, "paths(" + code + ")", p.x.paths(code), -1);
    }
    p.x.serve(1);
    p.due(29, "one who was served", p.x.cheapest(1012), -1);
    p.due(29, "those left", p.x.cheapest(121), 2, 1);
    Probe nine = Probe.eager(9);
    nine.law(0, 0, 0, 0);
    nine.due(29, "nine", nine.x.cheapest(1012345678), 0, new long[0]);
    nine.due(29, "nine", nine.x.cheapest(1876543210), -2);
    nine.due(29, "nine", nine.x.cheapest(1876543219), -1);
    nine.due(29, "eight of nine", nine.x.cheapest(112345678), -1);
    // Behind FIRST only the last place is sold.
    nine.law(0, 0, 99, 7);
    nine.due(29, "nine, the last place", nine.x.cheapest(1012345687), 8, 8);
    nine.due(30, "nine, the last place", nine.x.paths(1012345687), 1, 1);
    nine.rule(0, "-p*(i+1)-k*5");
    nine.due(34, "nine, the last place", nine.x.rises(), 0, 8, -9);
  }

  private static void paths() {
    Probe p = Probe.eager(3);
    p.due(30, "paths(1210)", p.x.paths(1210), 2, 2);
    p.due(30, "paths(1012)", p.x.paths(1012), 1, 2);
    p.due(30, "paths(1120)", p.x.paths(1120), 1, 2);
    p.law(0, 0, 1, 0);
    p.due(30, "none", p.x.paths(1210), -2, 2);
    p.due(30, "to lines at rest", p.x.paths(1021), 1, 2);
    Probe g = growing();
    g.due(30, "with any purses", g.x.paths(1210), 2, 2);
    // As many as there are ways to sort by neighbours: 16 for four, 768 for five.
    Probe four = Probe.eager(4);
    four.due(30, "four", four.x.paths(13210), 16, 16);
    Probe five = Probe.eager(5);
    five.due(30, "five", five.x.paths(143210), 768, 768);
    Probe nobody = new Probe();
    nobody.due(30, "nobody", nobody.x.paths(1), 1, 1);
  }

  private static void ends() {
    Probe p = Probe.eager(3);
    p.due(31, "ends(0)", p.x.ends(0), 4, 502, 502);
    p.law(0, 0, 1, 0);
    p.due(31, "ends(1)", p.x.ends(1), 5, 499, 502);
    p.due(31, "ends(3)", p.x.ends(3), -1);
    p.due(31, "ends(-1)", p.x.ends(-1), -1, 499, 502);
    Probe g = growing();
    g.due(31, "with other purses", g.x.ends(2), 1, 494, 497);
    g.x.serve(1);
    g.due(31, "one who was served", g.x.ends(0), -1);
  }

  private static void foremost() {
    Probe p = Probe.eager(3);
    p.due(32, "foremost(0)", p.x.foremost(0), 0, 500, 0);
    p.due(32, "foremost(1)", p.x.foremost(1), 0, 499, 1);
    p.due(32, "foremost(2)", p.x.foremost(2), 0, 497, 2);
    p.due(32, "MOST", p.law(0, 0, 1, 0).x.foremost(2), 1, 498, 1);
    p.due(32, "foremost(3)", p.x.foremost(3), -1);
    p.due(32, "foremost(-1)", p.x.foremost(-1), -1, 498, 1);
    Probe g = growing();
    g.due(32, "the greatest purse, the fewest sales", g.x.foremost(2), 0, 497, 2);
    // It comes to the front with 498 by 2 sales, and has more there once it has none left ahead.
    Probe f = Probe.eager(2);
    f.due(32, "the seller's greatest purse is at its first place", f.x.foremost(0), 0, 500, 0);
  }

  private static void finest() {
    Probe p = Probe.eager(3);
    p.due(33, "finest()", p.x.finest(), -4, 1210);
    p.due(33, "of equal ones the least code", p.law(0, 0, 1, 0).x.finest(), -7, 1021);
    p.due(33, "at rest as it is", p.law(0, 0, 0, 0).x.finest(), -8, 1012);
    Probe g = growing();
    g.due(33, "by k then", g.x.finest(), -12, 1210);
    Probe nobody = new Probe();
    nobody.due(33, "nobody", nobody.x.finest(), 0, 1);
  }

  private static void rises() {
    Probe p = Probe.eager(3);
    p.x.sum();
    p.due(34, "rises(), the row stays", p.x.rises(), 1, 0, -2, -6);
    // 1 gains 9, but that it was in one sale more is worth 10 less.
    Probe k = new Probe().rules("0", "-p*9-k*10").people("5,1,0;5,1,1");
    k.due(34, "by k", k.x.rises(), 0, 1, -1);
    k.rule(1, "-p*10-k*10");
    k.due(34, "by nothing", k.x.rises(), 0, 1, 0);
    k.rule(1, "-p*11-k*10");
    k.due(34, "by one", k.x.rises(), 1);
    Probe g = growing();
    g.due(34, "the first place", g.x.rises(), 0, 1, 0);
    // Place 1 is sold by friends who mind no sales; at place 2 one more sale is worth less.
    Probe s = new Probe().rules("-p*(i+1)", "-p*9-k*30").people("5,1,0;5,1,0;5,1,1");
    s.due(34, "the least place of the fewest sales", s.x.rises(), 0, 2, -23);
    // By its second sale alone it is worth less: behind places 1, 2 or 2, 1, of which 1, 2 is less.
    Probe t = new Probe().rules("-p*(i+1)", "-p*(i+1)-(k>1)*50").people("5,1,0;5,1,0;5,1,1");
    t.due(34, "the least row", t.x.rises(), 0, 1, -48);
    Probe nobody = new Probe();
    nobody.due(34, "nobody", nobody.x.rises(), 1);
  }

  private static void tooMany() {
    Probe six = Probe.eager(6);
    six.due(28, "720 lines", six.x.lines(), 720, 720, 1, 15, 15);
    Probe p = Probe.eager(7);
    p.x.open();
    p.x.walls();
    p.due(28, "lines()", p.x.lines(), -3, 126, 0);
    p.due(29, "cheapest()", p.x.cheapest(p.x.line()), -3);
    p.due(29, "cheapest() of no line", p.x.cheapest(7), -1);
    p.due(30, "paths()", p.x.paths(p.x.line()), -3);
    p.due(30, "paths() of no line", p.x.paths(7), -1);
    p.due(31, "ends()", p.x.ends(0), -3);
    p.due(31, "ends() of none", p.x.ends(7), -1);
    p.due(32, "foremost()", p.x.foremost(0), -3);
    p.due(32, "foremost() of none", p.x.foremost(7), -1);
    p.due(33, "finest()", p.x.finest(), -3);
    p.due(34, "rises()", p.x.rises(), -3, 126, 0);
    // Each in one sale at most: sets of neighbours apart, 21, of which 5 leave no two neighbours over.
    p.x.law(2, 1);
    p.due(28, "fewer by MOST", p.x.lines(), 21, 21, 5, 3, 2);
    just2000();
  }

  /** Found by trying many towns: 2000 lines are not too many, 2001 are. */
  private static void just2000() {
    Probe p = new Probe().rules("-p*(i*3-k)", "-p*(i+1)", "-t*(i+1)");
    p.people("500,1,2;23,2,1;500,1,0;12,1,0;500,1,0;500,2,0").law(0, 2, 5, 0);
    p.due(28, "2000 lines", p.x.lines(), 2000, 300, 223, 14, 12);
    p.due(30, "paths() of 2000", p.x.paths(1012345), 1);
    Probe q = new Probe().rules("-p*(i+1)/(k+1)", "-p*(i+1)", "-t*i", "-p*(i+1)/(k+1)");
    q.people("500,1,0;500,2,0;500,2,2;500,2,2;25,1,1!;500,2,3;500,2,2").law(1, 0, 5, 0);
    q.due(28, "2001 lines", q.x.lines(), -3);
    Probe r = new Probe().rules("-p*(i+1+k*2)", "-p*(i+1)*(k+1)", "-t*i", "-p*(i+1)");
    r.people("500,1,0;500,1,2;4,2,0;500,1,1;500,2,0;500,1,0;39,1,0;500,2,1!").law(0, 1, 4, 0);
    r.due(28, "2001 lines", r.x.lines(), -3);
    Probe s = new Probe().rules("-p*(i+1)*(k+1)", "-p*(i+1)", "-p*(q/99+i)", "-p*(i*3-k)");
    s.people("500,1,0;500,1,0!;500,2,1;500,1,0;27,1,0;500,2,0;57,2,1").law(1, 1, 5, 0);
    s.due(28, "1999 lines", s.x.lines(), 1999, 540, 259, 15, 8);
  }

  /** Whatever changes between two calls, the second one tells of what is then. */
  private static void changesBetween() {
    Probe p = Probe.eager(3);
    p.due(28, "lines()", p.x.lines(), 6);
    p.x.sell(1);
    p.due(28, "behind sell()", p.x.lines(), 3, 3, 1, 2, 2);
    p.x.undo();
    p.due(28, "behind undo()", p.x.lines(), 6);
    p.x.run(0, 2);
    p.due(28, "behind run()", p.x.lines(), 2);
    p.x.undo();
    p.x.undo();
    p.x.law(3, 1);
    p.due(28, "behind law()", p.x.lines(), 2);
    p.x.law(3, 0);
    p.x.sheet(3, 0, 0, 0);
    p.due(28, "behind sheet()", p.x.lines(), 1);
    p.x.friend(0, 1, true);
    p.due(28, "behind friend()", p.x.lines(), 2);
    p.x.keep(0);
    p.rule(0, "-p");
    p.due(28, "behind rule()", p.x.lines(), 1);
    p.rule(0, "-t*(i+1)");
    p.due(28, "behind rule()", p.x.lines(), 2);
    p.x.slow(0, 4);
    p.due(28, "behind slow()", p.x.lines(), 2);
    p.x.slow(1, 9);
    p.due(28, "behind slow()", p.x.lines(), 1);
    p.x.slow(1, 1);
    p.x.serve(1);
    p.due(28, "behind serve()", p.x.lines(), 1);
    p.x.again(0);
    p.due(28, "behind again()", p.x.lines(), 2);
    // 2 has no coins and gets none, so it stays behind 0 and 1: a third of all 24 orders.
    p.people("99,1,0;f3-2");
    p.due(28, "behind town()", p.x.lines(), 8);
    p.x.serve(1);
    p.x.lines();
    p.x.comes(0);
    p.due(29, "behind comes()", p.x.cheapest(11230), 0, new long[0]);
  }
}
