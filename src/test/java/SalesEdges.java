/** Promises 13 to 20: sales. */
final class SalesEdges extends Edges {
  private static final int LEAST = Integer.MIN_VALUE;
  private static final int GREATEST = Integer.MAX_VALUE;

  static void all() {
    worth();
    can();
    sell();
    undo();
    forgets();
    judge();
    run();
    runSorts();
    open();
    walls();
  }

  private static void worth() {
    says(13, "WORTH of a PLACE to one in THE LINE.");
    Probe p = new Probe().rules("t*100+p*10+n").people("1,1,0;1,2,0;1,4,0");
    is("its own PLACE", p.x.worth(1, 1), 113);
    is("the first PLACE", p.x.worth(2, 0), 3);
    is("the last PLACE", p.x.worth(0, 2), 623);
    p.x.serve(2);
    is("of one alone", p.x.worth(2, 0), 1);
    says(13, "NoSuchElementException: not in it, no such PLACE.");
    int[][] none = {{0, 0}, {6, 0}, {-1, 0}, {LEAST, 0}, {GREATEST, 0}, {1, 5}, {1, -1}, {1, LEAST}, {1, GREATEST}, {-1, -1}};
    for (int[] n : none) refused(Edges::busy, "worth(" + n[0] + ", " + n[1] + ")", THROWN, x -> x.worth(n[0], n[1]));
    is("the last PLACE there is", busy().x.worth(1, 4) < 0, true);
    throwsNone("of nobody", () -> new Probe().x.worth(0, 0));
  }

  private static void can() {
    says(14, "Whether a SALE of a PLACE CAN BE: 1, 0; the ROW: GAIN, LOSS, PRICE.");
    Probe p = Probe.eager(9);
    tells(p, "the first", p.x.can(1), 1, 2, 1, 1);
    tells(p, "the last", p.x.can(8), 1, 9, 8, 8);
    p.law(0, 0, 99, 8);
    tells(p, "it can't be, it tells all the same", p.x.can(8), 0, 9, 8, 8);
    is("nothing is sold", p.x.line(), 1012345678);
    says(14, "NONE: no such PLACE (1 .. ).");
    for (int place : new int[] {0, 5, -1, LEAST, GREATEST}) refused(Edges::busy, "can(" + place + ")", -1, x -> x.can(place));
    is("the last there is", busy().x.can(4) >= 0, true);
    is("one alone", new Probe().people("1,1,1").x.can(1), -1);
    is("nobody", new Probe().x.can(0), -1);
    is("nobody", new Probe().x.can(1), -1);
  }

  private static void sell() {
    says(15, "It is made: PRICE.");
    Probe p = Probe.eager(9);
    is("the last", p.x.sell(8), 8);
    is("line()", p.x.line(), 1012345687);
    is("the first", p.x.sell(1), 1);
    is("line()", p.x.line(), 1102345687);
    is("for nothing", pair("0", "1", 0, 0).x.sell(1), 0);
    is("PRICE is without FEE", pair("3", "9", 9, 9).law(0, 2, 99, 0).x.sell(1), 3);
    is("for all there can be", pair("999", "999+1", 0, 999).x.sell(1), 999);
    is("the ROW stays", p.x.count(5), 0);
    says(15, "-2: it can't be;");
    // THE LINE is 2, 3, 4, 1, 5, and 2 never sells.
    refused(Edges::busy, "sell(1)", -2, x -> x.sell(1));
    refused(() -> pair("5", "5", 9, 9), "GAIN is LOSS", -2, x -> x.sell(1));
    refused(() -> pair("5", "9", 9, 4), "a PURSE too small", -2, x -> x.sell(1));
    says(15, "NONE: no such PLACE.");
    for (int place : new int[] {0, 5, -1, LEAST, GREATEST}) refused(Edges::busy, "sell(" + place + ")", -1, x -> x.sell(place));
    is("one alone", new Probe().people("1,1,1").x.sell(1), -1);
    is("nobody", new Probe().x.sell(0), -1);
  }

  private static void undo() {
    says(16, "The latest SALE (of 40 that are kept, the latest ones) is undone");
    for (int made : new int[] {1, 39, 40, 41, 99}) {
      Probe p = pairs(99);
      is("sales", p.x.run(0, made), made);
      int kept = Math.min(made, 40);
      is("kept", p.x.count(2), kept);
      for (int left = kept - 1; left >= 0; left--) {
        is("undo()", p.x.undo(), left);
        is("sales of 0", p.x.of(0, 5), made - kept + left);
        is("line()", p.x.line(), p.x.of(0, 5) % 2 == 0 ? 101 : 110);
      }
      is("no more", p.x.undo(), -1);
      is("sales of 0", p.x.of(0, 5), made - kept);
    }
    Probe again = pairs(99);
    again.x.run(0, 60);
    for (int i = 0; i < 30; i++) again.x.undo();
    is("10 are left", again.x.count(2), 10);
    again.x.run(0, 35);
    is("40 again", again.x.count(2), 40);
    for (int i = 0; i < 40; i++) again.x.undo();
    is("back behind 25", again.x.of(1, 5), 25);
    says(16, "(PURSES of all, SALES, PLACES are as they were ahead of it):");
    Probe p = new Probe().rules("-p*(i+1)").people("997,1,0;50,1,0;60,1,0").law(2, 5, 99, 0);
    p.x.serve(0);
    p.law(2, 0, 99, 0);
    p.x.sell(1);
    is("what was lost", p.x.of(0, 0), 999);
    p.x.sheet(2, 3, 7, 0);
    p.law(0, 9, 9, 9);
    p.x.undo();
    is("PURSES", p.x.of(0, 0), 997);
    is("PURSES", p.x.of(1, 0), 50);
    is("PURSES, of one not in it, told by a sheet since", p.x.of(2, 0), 60);
    is("SALES", p.x.of(0, 5) + p.x.of(1, 5), 0);
    is("PLACES", p.x.line(), 1012);
    is("THE LAW is as it was told", p.x.law(1, 0), 9);
    Probe nine = Probe.eager(9);
    for (int turn = 0; turn < 18; turn++) {
      nine.x.sheet(2, 9, 999 - turn, turn % 2 == 0 ? -77 : 1);
      long[] had = purses(nine);
      if (turn % 5 == 4) nine.x.serve(0);
      nine.x.sell(8);
      nine.x.sheet(3, 0, 0, 0);
      nine.x.undo();
      is("PURSES of nine", java.util.Arrays.equals(had, purses(nine)), true);
    }
    says(16, "how many are left that can be.");
    Probe two = Probe.eager(3);
    two.x.run(0, 2);
    is("one", two.x.undo(), 1);
    is("none", two.x.undo(), 0);
    says(16, "Refused: none.");
    refused(() -> Probe.eager(2), "undo() of none", -1, x -> x.undo());
    refused(Probe::new, "undo() of nobody", -1, x -> x.undo());
    refused(SalesEdges::allUndone, "undo() of none left", -1, x -> x.undo());
  }

  private static long[] purses(Probe p) {
    long[] all = new long[9];
    for (int person = 0; person < 9; person++) all[person] = p.x.of(person, 0);
    return all;
  }

  private static Probe allUndone() {
    Probe p = busy();
    for (int i = 0; i < 3; i++) p.x.undo();
    return p;
  }

  private static void forgets() {
    says(16, "(comes(), serve(), town() and again() forget them, if they are not refused.)");
    is("sales that can be undone", busy().x.count(2), 3);
    Probe comes = busy();
    is("comes()", comes.x.comes(0), 5);
    is("forgotten", comes.x.undo(), -1);
    for (int n : new int[] {0, 1, 9}) {
      Probe serve = busy();
      serve.x.serve(n);
      is("serve(" + n + "), forgotten", serve.x.undo(), -1);
    }
    for (String told : new String[] {"1,1,1", "f1-2", ""}) {
      Probe town = busy();
      is("town() of " + told, town.town(told) >= 0, true);
      is("forgotten", town.x.undo(), -1);
    }
    for (int i = 0; i < 2; i++) {
      Probe again = busy();
      is("again(" + i + ")", again.x.again(i), true);
      is("forgotten", again.x.undo(), -1);
    }
    Probe refused = busy();
    is("comes() refused", refused.x.comes(1), -1);
    is("serve() refused", refused.x.serve(10), -1);
    is("town() refused", refused.town("1,1,1;x"), -7);
    is("again() refused", refused.x.again(2), false);
    is("none is forgotten", refused.x.count(2), 3);
    is("other calls", refused.x.law(0, 0) + refused.x.slow(1, 2) + refused.rule(0, "0") + refused.x.sheet(2, 3, 0, 0), 1 + 2 + 0 + 0);
    is("none is forgotten", refused.x.undo(), 2);
    is("line()", refused.x.line(), 123145);
  }

  private static void judge() {
    says(17, "A row of SALES told as a number: n PLACES (0 .. 8), 4 bits each, from the lowest on:");
    Probe p = Probe.eager(3);
    tells(p, "2 1, of 2 1 1", p.x.judge(2, 0x112), -2, 1201, 3);
    tells(p, "none", p.x.judge(0, 0x112), -2, 1012, 0);
    tells(p, "all but the last of 2 1 1", p.x.judge(3, 0x112), 2, 1201, 3);
    Probe eight = pairs(99);
    tells(eight, "eight", eight.x.judge(8, 0x11111111), -2, 101, 0);
    Probe nine = Probe.eager(9);
    // 7 comes to the front, then 8 buys of 6; or 8 comes behind 0, then 7 buys of 6.
    tells(nine, "the last PLACE in the highest bits", nine.x.judge(8, 0x81234567), -2, 1701234586L, 7 + 6 + 5 + 4 + 3 + 2 + 1 + 7);
    tells(nine, "the last PLACE first and last", nine.x.judge(8, 0x82345678), -2, 1081234576L, 8 + 7 + 6 + 5 + 4 + 3 + 2 + 7);
    tells(nine, "without the highest bits", nine.x.judge(7, 0x81234567), -2, 1701234568L, 7 + 6 + 5 + 4 + 3 + 2 + 1);
    says(17, "-2: all can be made, one behind the other;");
    tells(p, "1 2 1", p.x.judge(3, 0x121), -2, 1210, 4);
    tells(p, "2 1 2", p.x.judge(3, 0x212), -2, 1210, 4);
    says(17, "else the number of the first that can't (0 ..);");
    tells(p, "the first", p.x.judge(3, 0x110), 0, 1012, 0);
    tells(p, "the second", p.x.judge(3, 0x111), 1, 1102, 1);
    tells(p, "PLACE 3 of three", p.x.judge(2, 0x31), 1, 1102, 1);
    tells(p, "PLACE 15", p.x.judge(1, -1), 0, 1012, 0);
    tells(eight, "the eighth", eight.x.judge(8, 0x01111111), 7, 110, 0);
    tells(eight, "the eighth", eight.x.judge(8, LEAST | 0x01111111), 7, 110, 0);
    Probe nobody = new Probe();
    tells(nobody, "nobody", nobody.x.judge(1, 1), 0, 1, 0);
    tells(nobody, "none of nobody", nobody.x.judge(0, 1), -2, 1, 0);
    says(17, "the ROW: CODE of THE LINE then, what was paid till then (PRICES and FEES).");
    p.law(0, 1, 99, 0);
    tells(p, "with FEES", p.x.judge(3, 0x121), -2, 1210, 4 + 3);
    tells(p, "with FEES, till then", p.x.judge(3, 0x321), 2, 1120, 1 + 1 + 2);
    says(17, "Nothing changes.");
    changesNothing(Edges::busy, "judge(8, 4..)", x -> x.judge(8, 0x44444444));
    changesNothing(Edges::busy, "judge(2, 2 4)", x -> x.judge(2, 0x42));
    is("line()", p.x.line(), 1012);
    says(17, "NONE: another n.");
    for (int n : new int[] {-1, 9, LEAST, GREATEST}) refused(Edges::busy, "judge(" + n + ", 2)", -1, x -> x.judge(n, 2));
  }

  /** 99 sales of three pairs each: 297, more than one run makes. */
  private static Probe many() {
    return pairs(99, 99, 99);
  }

  private static void run() {
    says(18, "SALES till none CAN BE, at most n (0 .. 200):");
    for (int sort = 0; sort < 4; sort++) {
      Probe p = many();
      is("none", p.x.run(sort, 0), 0);
      is("one", p.x.run(sort, 1), 1);
      is("200", p.x.run(sort, 200), 200);
      is("those left", p.x.run(sort, 200), 96);
      is("none is left", p.x.run(sort, 200), 0);
      is("of nobody", new Probe().x.run(sort, 200), 0);
    }
    is("MOST of 0", many().law(0, 0, 0, 0).x.run(0, 200), 0);
    for (int sort = 0; sort < 4; sort++) {
      Probe once = byTime();
      Probe each = byTime();
      int all = once.x.run(sort, 200);
      int made = 0;
      while (made < 200 && each.x.run(sort, 1) == 1) made++;
      is("as many one by one", made, all);
      is("more than a few", all > 5, true);
      is("the same line", each.x.line(), once.x.line());
      for (int person = 0; person < 7; person++) is("the same PURSE", each.x.of(person, 0), once.x.of(person, 0));
    }
  }

  /** Seven whose minutes and wishes are unlike: a sale changes what its neighbours gain and lose. */
  private static Probe byTime() {
    return new Probe().rules("-t*(i+1)", "-t*(9-k)*i", "-t*i-p*7").people("300,9,0;300,2,1;300,7,0;300,1,2;300,5,1;300,3,0;300,8,2");
  }

  private static void runSorts() {
    says(18, "sort 0: each time that of the least PLACE,");
    is("from the front", lineBehind(0, 1), 1102);
    is("then", lineBehind(0, 2), 1120);
    says(18, "1: of the greatest,");
    is("from the back", lineBehind(1, 1), 1021);
    is("then", lineBehind(1, 2), 1201);
    says(18, "2: by a DRAW of all that CAN BE (by PLACES),");
    for (int seed = 1; seed <= 8; seed++) {
      Probe p = Probe.eager(3);
      p.x.seed(seed);
      p.x.run(2, 1);
      long drawn = (seed * 1103515245L + 12345) % (1L << 32) / 65536 % 2;
      is("by R " + seed, p.x.line(), drawn == 0 ? 1102 : 1021);
    }
    Probe apart = Probe.eager(4).law(0, 0, 99, 2);
    apart.x.run(2, 1);
    is("those that can't be are not drawn of", apart.x.line(), 10132);
    Probe none = Probe.eager(3);
    none.x.run(2, 0);
    is("no DRAW without a sale", none.x.seed(1), 1);
    none.x.run(2, 2);
    int r = 1;
    for (int i = 0; i < 2; i++) r = r * 1103515245 + 12345;
    is("a DRAW for each sale", none.x.seed(1), r);
    says(18, "3: that with the greatest GAIN less LOSS (of equal ones the least PLACE):");
    Probe great = new Probe().rules("-p*i*i").people("50,1,0;50,1,0;50,1,0");
    great.x.run(3, 1);
    is("3 is more than 1", great.x.line(), 1021);
    Probe equal = Probe.eager(9);
    equal.x.run(3, 1);
    is("equal ones", equal.x.line(), 1102345678);
    // GAIN and LOSS are 10 and 5 at PLACE 1, 9 and 3 at PLACE 3.
    Probe less = new Probe().rules("-p*5", "-p*10", "-p*3", "-p*9").people("50,1,0;50,1,1;50,1,2;50,1,3");
    less.x.run(3, 1);
    is("6 is more than 5", less.x.line(), 10132);
    Probe closed = new Probe().rules("-p*i*i").people("50,1,0;50,1,0!;50,1,0");
    closed.x.run(3, 1);
    is("the greatest can't be", closed.x.line(), 1102);
    says(18, "how many; the ROW: 1 if it is at rest, what was paid.");
    Probe p = Probe.eager(3).law(0, 1, 99, 0);
    tells(p, "none", p.x.run(0, 0), 0, 0, 0);
    tells(p, "not at rest", p.x.run(0, 2), 2, 0, 1 + 1 + 2);
    tells(p, "as many as there are", p.x.run(0, 1), 1, 1, 1 + 1 + 1);
    tells(p, "at rest before", p.x.run(0, 200), 0, 1, 0);
    tells(p, "none, at rest", p.x.run(0, 0), 0, 1, 0);
    Probe m = many();
    tells(m, "200 of 297", m.x.run(1, 200), 200, 0, 0);
    Probe nobody = new Probe();
    tells(nobody, "nobody", nobody.x.run(2, 200), 0, 1, 0);
    says(18, "NONE: others.");
    for (int sort : new int[] {-1, 4, LEAST, GREATEST}) refused(Edges::busy, "run(" + sort + ", 5)", -1, x -> x.run(sort, 5));
    for (int n : new int[] {-1, 201, LEAST, GREATEST}) {
      for (int sort = 0; sort < 4; sort++) {
        int told = sort;
        refused(Edges::busy, "run(" + sort + ", " + n + ")", -1, x -> x.run(told, n));
      }
    }
  }

  private static long lineBehind(int sort, int n) {
    Probe p = Probe.eager(3);
    p.x.run(sort, n);
    return p.x.line();
  }

  private static void open() {
    says(19, "PLACES (bits) of which a SALE CAN BE.");
    Probe p = Probe.eager(9);
    is("all but PLACE 0", p.x.open(), 510);
    is("the last alone", p.law(0, 0, 99, 7).x.open(), 256);
    is("none", p.law(0, 0, 99, 8).x.open(), 0);
    is("the first alone", Probe.eager(2).x.open(), 2);
    is("one alone", new Probe().people("9,1,0").x.open(), 0);
    is("nobody", new Probe().x.open(), 0);
    changesNothing(Edges::busy, "open()", x -> x.open());
  }

  private static void walls() {
    says(20, "PLACES (bits) of which a SALE could be, whatever PURSES were (all else as it is):");
    Probe p = Probe.eager(9);
    p.x.sheet(3, 0, 0, 0);
    tells(p, "empty PURSES", p.x.walls(), 8, 510, 0);
    tells(p, "FIRST is as it is", p.law(0, 0, 99, 7).x.walls(), 1, 256, 254);
    tells(p, "MOST is as it is", p.law(0, 0, 0, 0).x.walls(), 0, 0, 510);
    tells(p, "FEE is as it is", p.law(0, 1, 99, 0).x.walls(), 8, 510, 0);
    tells(p, "FEE is as it is", p.law(0, 2, 99, 0).x.walls(), 0, 0, 510);
    Probe equal = pair("5", "5", 0, 0);
    tells(equal, "GAIN is LOSS", equal.x.walls(), 0, 0, 2);
    Probe most = pair("999", "999+1", 0, 0);
    tells(most, "a full PURSE pays 999", most.x.walls(), 1, 2, 0);
    tells(most, "and no FEE", most.law(0, 1, 99, 0).x.walls(), 0, 0, 2);
    Probe dear = pair("999+1", "999+2", 0, 0);
    tells(dear, "no PURSE pays 1000", dear.x.walls(), 0, 0, 2);
    Probe byPurse = new Probe().rules("0", "-p*(q=999)*9").people("0,1,0;0,1,1");
    tells(byPurse, "by q of the buyer, full", byPurse.x.walls(), 1, 2, 0);
    byPurse.rules("0", "-p*(q=0)*9");
    byPurse.x.sheet(2, 2, 5, 0);
    tells(byPurse, "by q of the buyer, empty", byPurse.x.walls(), 1, 2, 0);
    byPurse.rules("-p*(9-(q=999)*9)", "-p*9");
    tells(byPurse, "by q of the seller, full", byPurse.x.walls(), 1, 2, 0);
    byPurse.rules("-p*(9-(q=0)*9)", "-p*9");
    tells(byPurse, "by q of the seller, empty", byPurse.x.walls(), 1, 2, 0);
    byPurse.rules("-p*(9-(q>999)*9-(q<0)*9)", "-p*9");
    tells(byPurse, "by q of the seller, that can't be", byPurse.x.walls(), 0, 0, 2);
    byPurse.rules("0", "(q=7)*-9*p");
    tells(byPurse, "by q, the first sign of a RULE", byPurse.x.walls(), 1, 2, 0);
    byPurse.rules("0", "-p*((q>999)+(q<0))*9");
    tells(byPurse, "by q of the buyer, that can't be", byPurse.x.walls(), 0, 0, 2);
    // 2 gains the 3 minutes of 1, who loses 3 or 2.
    Probe byTime = new Probe().rules("0", "-p*3", "0-t").people("0,2,0;0,3,1;0,1,2");
    tells(byTime, "by minutes, GAIN is LOSS", byTime.x.walls(), 1, 2, 4);
    byTime.rules("0", "-p*2", "0-t");
    tells(byTime, "by minutes", byTime.x.walls(), 2, 6, 0);
    changesNothing(Edges::busy, "walls()", x -> x.walls());
    says(20, "WALLS are the others: how many;");
    is("they are counted, not WALLS", Probe.eager(4).law(0, 0, 99, 1).x.walls(), 2);
    Probe stubborn = new Probe().rules("-p*(i+1)").people("0,1,0!;0,1,0!;0,1,0;0,1,0");
    tells(stubborn, "two WALLS", stubborn.x.walls(), 1, 8, 6);
    says(20, "the ROW: they, WALLS (bits of PLACES 1 ..).");
    Probe nobody = new Probe();
    tells(nobody, "nobody", nobody.x.walls(), 0, 0, 0);
    Probe alone = new Probe().people("1,1,0");
    tells(alone, "one alone", alone.x.walls(), 0, 0, 0);
    Probe flat = new Probe().people("1,1,0" + ";1,1,0".repeat(8));
    tells(flat, "all are WALLS", flat.x.walls(), 0, 0, 510);
  }
}
