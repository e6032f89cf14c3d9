/** Promises 38 to 41: laws. */
final class LawsEdges extends Edges {
  private static final int[] NO_SORTS = {-1, 2, 4, Integer.MIN_VALUE, Integer.MAX_VALUE};
  private static final int[] SORTS = {0, 1, 3};

  static void all() {
    best();
    bestLaws();
    bestRest();
    bear();
    tax();
    turned();
  }

  /** Pairs who change their places as often as THE LAW lets them, with 500 coins each. */
  private static Probe fickle(int pairs, String zero, String one) {
    String town = "500,1,0;500,1,1" + ";0,1,2!;500,1,0;500,1,1".repeat(pairs - 1);
    return new Probe().rules("-p*(k-k/2*2)*9" + zero, "-p*(1-(k-k/2*2))*9" + one).people(town);
  }

  private static void best() {
    says(38, "The LAW by which, from now on by run() of a sort of 200, sum() is the most behind it:");
    // Without FEE 297 SALES can be, and behind 200 one pair is not at rest; with FEE 1 the pairs rest behind 66 each.
    for (int sort : SORTS) {
      Probe p = pairs(99, 99, 99);
      tells(p, "198 of 200, run " + sort, p.x.best(sort), 0, 0, 1, 99);
    }
    // 201 SALES are one too many, 200 are not.
    for (int sort : new int[] {0, 3}) {
      Probe more = pairs(99, 99, 3);
      tells(more, "201, run " + sort, more.x.best(sort), 0, 0, 1, 99);
      Probe just = pairs(99, 99, 2);
      tells(just, "200, run " + sort, just.x.best(sort), 0, 0, 0, 99);
    }
    Probe nobody = new Probe();
    tells(nobody, "nobody", nobody.x.best(0), 0, 0, 0, 0);
    Probe now = Probe.eager(3);
    now.x.run(0, 200);
    tells(now, "from now on: at rest", now.x.best(1), -4, 0, 0, 0);
    // It is best if 1 buys of 0 and no more: from the front by MOST of 1; from the back 2 would buy of 1 first, for 3 of its
    // GAIN of 4, but for a FEE of 2.
    Probe sorts = new Probe().rules("0-(k>1)*9", "-p*3", "-p*4").people("0,1,0;9,1,1;9,1,2");
    tells(sorts, "run 0", sorts.x.best(0), -4 * 2, 0, 0, 1);
    tells(sorts, "run 1", sorts.x.best(1), -4 * 2, 0, 2, 1);
  }

  /** 0 minds nothing but its coins, 1 gains 9: it pays nothing, 4 or 9. */
  private static Probe byPrice(int buyers) {
    return new Probe().rules("q", "-p*9").people("100,1,0;" + buyers + ",1,1");
  }

  /** 1 buys of its friend 0, which is good; 3 of its friend 2, which is bad by k; 3 has so much. */
  private static Probe byFee(int coins) {
    return new Probe().rules("0", "-p*50", "-p*50-k*900").people("0,1,0;500,1,1;0,1,0;" + coins + ",1,2;f0-1;f2-3");
  }

  private static void bestLaws() {
    says(38, "sorts 0 .. 2,");
    int[][] coins = {{3, 100, 0}, {4, 104, 1}, {8, 104, 1}, {9, 109, 2}};
    for (int[] c : coins) {
      Probe p = byPrice(c[0]);
      tells(p, "a PURSE of " + c[0], p.x.best(0), c[1], c[2], 0, 1);
    }
    says(38, "FEE 0 .. 9,");
    Probe eight = byFee(8);
    tells(eight, "9 keeps it away", eight.x.best(0), -150, 0, 9, 1);
    Probe none = byFee(0);
    tells(none, "1 keeps it away", none.x.best(0), -150, 0, 1, 1);
    Probe nine = byFee(9);
    tells(nine, "10 is not tried", nine.x.best(0), -200, 0, 0, 0);
    says(38, "MOST 0 .. 3 and 99");
    for (int most : new int[] {0, 1, 2, 3, 99}) {
      Probe p = fickle(1, "+(k=" + most + ")*50", "");
      tells(p, "MOST of " + most, p.x.best(0), 41, 0, 0, most);
    }
    for (int most : new int[] {4, 5, 98}) {
      Probe p = fickle(1, "+(k=" + most + ")*50", "");
      tells(p, "MOST of " + most + " is not tried", p.x.best(0), -9, 0, 0, 0);
    }
    says(38, "(FIRST as it is):");
    Probe first = Probe.eager(3).law(2, 99, 0, 1);
    tells(first, "FIRST of 1", first.x.best(0), -7, 0, 0, 1);
    tells(first, "FIRST of 2", first.law(2, 99, 0, 2).x.best(0), -8, 0, 0, 0);
    tells(first, "FIRST of 0", first.law(2, 99, 0, 0).x.best(0), -4, 0, 0, 2);
  }

  private static void bestRest() {
    says(38, "of equal ones the first (by sort, then FEE, then MOST): that sum;");
    Probe flat = new Probe().people("5,1,0;5,1,0");
    tells(flat, "all are equal", flat.x.best(0), 0, 0, 0, 0);
    // As good as FEE 0 and MOST 99 is FEE 1 and MOST 1.
    Probe fee = fickle(1, "+(k=99)*50", "+(q=499)*50");
    tells(fee, "FEE tells ahead of MOST", fee.x.best(0), 41, 0, 0, 99);
    // As good as sort 0 and FEE 4 is sort 1 and FEE 0: 1 has 496 behind one SALE. With FEE 2 it has that behind three.
    Probe once = fickle(1, "", "+(q=496)*(k=1)*50");
    tells(once, "the sort tells ahead of FEE", once.x.best(0), 41, 0, 4, 1);
    Probe ever = fickle(1, "", "+(q=496)*50");
    tells(ever, "FEE tells ahead of MOST", ever.x.best(0), 41, 0, 2, 3);
    says(38, "the ROW: sort, FEE, MOST.");
    Probe row = Probe.eager(3);
    tells(row, "three", row.x.best(3), -4, 0, 0, 2);
    says(38, "NONE: another sort of run(), 2 (DRAWS).");
    for (int sort : NO_SORTS) refused(Edges::busy, "best(" + sort + ")", -1, x -> x.best(sort));
    says(38, "Nothing changes.");
    for (int sort : SORTS) changesNothing(Edges::busy, "best(" + sort + ")", x -> x.best(sort));
  }

  private static void bear() {
    says(39, "The greatest FEE (0 .. 99) with which as many SALES are made by run() of a sort of 200 as with 0;");
    is("99", pair("0", "99", 0, 99).x.bear(0), 99);
    is("no more than 99", pair("0", "999", 0, 999).x.bear(0), 99);
    is("98 by GAIN", pair("0", "98", 0, 999).x.bear(0), 98);
    is("98 by PURSE", pair("0", "999", 0, 98).x.bear(0), 98);
    is("1", pair("1", "2", 0, 9).x.bear(0), 1);
    is("none", pair("1", "2", 0, 9).law(2, 0, 99, 0).x.bear(0), 0);
    is("no SALES at all", pair("2", "1", 0, 9).x.bear(0), 99);
    is("no SALES at all, a coin is missing", pair("5", "9", 0, 4).x.bear(0), 99);
    is("nobody", new Probe().x.bear(0), 99);
    // With FEES 1 to 3 the seller buys back: two SALES, not one.
    Probe more = new Probe().rules("-p*3*(k=1)", "-p*50*(q>99)").people("50,1,0;100,1,1");
    for (int sort : SORTS) tells(more, "more SALES with less, run " + sort, more.x.bear(sort), 50, 1, 50);
    says(39, "the ROW: how many, what FEES would bring.");
    Probe most = fickle(3, "", "");
    for (int sort : SORTS) tells(most, "200 of 297, run " + sort, most.x.bear(sort), 9, 200, 1800);
    Probe none = pair("2", "1", 0, 9);
    tells(none, "none", none.x.bear(0), 99, 0, 0);
    Probe free = pair("1", "2", 0, 9).law(2, 77, 99, 0);
    tells(free, "whatever FEE is", free.x.bear(0), 0, 1, 0);
    says(39, "NONE: as best().");
    for (int sort : NO_SORTS) refused(Edges::busy, "bear(" + sort + ")", -1, x -> x.bear(sort));
    says(39, "Nothing changes.");
    for (int sort : SORTS) changesNothing(Edges::busy, "bear(" + sort + ")", x -> x.bear(sort));
  }

  private static void tax() {
    says(40, "The FEE (0 .. 99) with which FEES bring the most by run() of a sort of 200;");
    is("99", pair("0", "99", 0, 99).x.tax(0), 99);
    is("no more than 99", pair("0", "999", 0, 999).x.tax(0), 99);
    is("98", pair("0", "98", 0, 999).x.tax(0), 98);
    is("more SALES bring less", new Probe().rules("-p*3*(k=1)", "-p*50*(q>99)").people("50,1,0;100,1,1").x.tax(0), 50);
    Probe rest = pairs(99, 99, 99);
    tells(rest, "18 SALES of each pair", rest.x.tax(0), 9, 54 * 9, 54);
    says(40, "of equal ones the least: it;");
    is("nothing by any", pair("2", "1", 0, 9).x.tax(0), 0);
    is("nobody", new Probe().x.tax(0), 0);
    // 1 bears 10, 3 bears 20: two SALES bring as much with 10 as one with 20.
    Probe equal = new Probe().rules("0", "-p*10", "-p*20").people("0,1,0;50,1,1;0,1,0;20,1,2").law(0, 0, 1, 0);
    tells(equal, "10 and 20", equal.x.tax(0), 10, 20, 2);
    says(40, "the ROW: that, how many SALES.");
    Probe free = pair("1", "2", 0, 9).law(2, 77, 99, 0);
    tells(free, "only without FEE", free.x.tax(0), 0, 0, 1);
    Probe none = pair("2", "1", 0, 9);
    tells(none, "no SALES", none.x.tax(0), 0, 0, 0);
    Probe most = fickle(3, "", "");
    for (int sort : SORTS) tells(most, "200 of 297, run " + sort, most.x.tax(sort), 9, 1800, 200);
    Probe missing = pair("5", "9", 0, 4);
    tells(missing, "no SALES, a coin is missing", missing.x.tax(0), 0, 0, 0);
    says(40, "NONE: as best().");
    for (int sort : NO_SORTS) refused(Edges::busy, "tax(" + sort + ")", -1, x -> x.tax(sort));
    says(40, "Nothing changes.");
    for (int sort : SORTS) changesNothing(Edges::busy, "tax(" + sort + ")", x -> x.tax(sort));
  }

  private static void turned() {
    says(41, "By how much sum() would be more behind run() of a sort of 200,");
    Probe p = Probe.eager(3);
    is("less", p.x.turned(0, 0), -3);
    is("as much", p.x.turned(2, 0), 0);
    Probe more = new Probe().rules("-p*(i+1)").people("500,1,0!;500,1,0;500,1,0");
    is("more", more.x.turned(0, 0), 3);
    // Of three pairs one does not come to rest: the last, as 200 SALES are made by then, who misses 9 by each PLACE ahead;
    // or the first, as 0 does not sell.
    is("200 of 297", pairs(99, 99, 99).x.turned(0, 0), 7 * 9 - 9);
    is("200 of 201", pairs(99, 99, 3).x.turned(0, 0), 7 * 9 - 9);
    is("all of 200", pairs(99, 99, 2).x.turned(0, 0), -9);
    is("all of 198", pairs(99, 99).x.turned(0, 0), -9);
    is("the ROW stays", p.x.count(5), 0);
    says(41, "if one of PEOPLE in THE LINE was not STUBBORN, or was, the other way round than it is.");
    Probe both = new Probe().rules("-p*(i+1)").people("500,1,0!;500,1,0!;500,1,0");
    // 1 and 2 could come ahead of 0, or 2 of 1; as it is nobody can.
    is("the first is not", both.x.turned(0, 1), 3);
    is("the second is not", both.x.turned(1, 1), 1);
    is("the last is", both.x.turned(2, 1), 0);
    is("of nine, the last", Probe.eager(9).law(0, 0, 99, 7).x.turned(8, 3), 0);
    is("of nine, who is ahead of it", Probe.eager(9).law(0, 0, 99, 7).x.turned(7, 3), -1);
    is("alone", new Probe().people("1,1,1").x.turned(0, 0), 0);
    says(41, "NONE: as best(), not in THE LINE.");
    for (int sort : NO_SORTS) refused(Edges::busy, "turned(1, " + sort + ")", -1, x -> x.turned(1, sort));
    for (int person : new int[] {0, 6, 9, 32, -1, Integer.MIN_VALUE, Integer.MAX_VALUE}) {
      for (int sort : SORTS) refused(Edges::busy, "turned(" + person + ", " + sort + ")", -1, x -> x.turned(person, sort));
    }
    is("nobody", new Probe().x.turned(0, 0), -1);
    says(41, "Nothing changes.");
    for (int person = 1; person < 6; person++) {
      int told = person;
      for (int sort : SORTS) refused(Edges::busy, "turned(" + person + ", " + sort + ")", busy().x.turned(told, sort), x -> x.turned(told, sort));
    }
  }
}
