/** Promises 42 to 47: kept. */
final class KeptEdges extends Edges {
  private static final int LEAST = Integer.MIN_VALUE;
  private static final int GREATEST = Integer.MAX_VALUE;

  static void all() {
    seed();
    keep();
    again();
    count();
    line();
    row();
    lastCall();
  }

  private static void seed() {
    says(42, "R becomes v: what it was.");
    Probe p = new Probe();
    is("at first", p.x.seed(LEAST), 1);
    is("the least", p.x.seed(GREATEST), LEAST);
    is("the greatest", p.x.seed(0), GREATEST);
    is("0", p.x.seed(-1), 0);
    is("below 0", p.x.seed(-1), -1);
  }

  private static void keep() {
    says(43, "THE LINE, as it came too, PURSES, SALES, THE LAW, R are kept under a number 0 .. 1: true.");
    for (int i = 0; i < 2; i++) {
      Probe p = Probe.eager(3);
      p.x.sell(1);
      p.law(1, 2, 50, 0).x.seed(77);
      is("keep(" + i + ")", p.x.keep(i), true);
      is("none is forgotten", p.x.count(2), 1);
      p.law(2, 9, 9, 9).x.seed(5);
      p.x.sheet(3, 0, 0, 0);
      p.x.serve(2);
      p.x.comes(0);
      is("again(" + i + ")", p.x.again(i), true);
      is("THE LINE", p.x.line(), 1102);
      tells(p, "as it came", p.x.gained(1), 1, 2, -1);
      is("PURSES", p.x.of(0, 0) * 1000000L + p.x.of(1, 0) * 1000L + p.x.of(2, 0), 501499500);
      is("SALES", p.x.of(0, 5) * 100 + p.x.of(1, 5) * 10 + p.x.of(2, 5), 110);
      is("the sort", p.x.law(0, 0), 1);
      is("FEE", p.x.law(1, 0), 2);
      is("MOST", p.x.law(2, 0), 50);
      is("FIRST", p.x.law(3, 0), 0);
      is("R", p.x.seed(0), 77);
    }
    Probe nobody = new Probe();
    is("of nobody", nobody.x.keep(1), true);
    is("of nobody", nobody.x.again(1), true);
    Probe twice = Probe.eager(3);
    twice.x.keep(0);
    twice.x.sell(1);
    twice.x.keep(0);
    twice.x.serve(3);
    twice.x.again(0);
    is("kept anew", twice.x.line(), 1102);
    says(43, "Refused: others.");
    for (int i : new int[] {-1, 2, LEAST, GREATEST}) refused(Edges::busy, "keep(" + i + ")", 0, x -> x.keep(i) ? 1 : 0);
  }

  private static Probe keptNothing() {
    Probe p = Probe.eager(3);
    p.x.sell(1);
    p.x.sum();
    return p.text("t");
  }

  private static Probe toldSince(String town) {
    Probe p = busy();
    p.people(town);
    p.x.sell(2);
    return p;
  }

  private static void again() {
    says(44, "They are as they were kept under a number.");
    Probe p = busy();
    is("again(1)", p.x.again(1), true);
    is("THE LINE", p.x.line(), 123145);
    is("FEE", p.x.law(1, 7), 1);
    is("again(0)", p.x.again(0), true);
    is("THE LINE", p.x.line(), 1012345);
    is("FEE", p.x.law(1, 7), 1);
    is("again(0) once more", p.x.again(0), true);
    is("FEE", p.x.law(1, 7), 1);
    p.x.serve(9);
    is("again(1)", p.x.again(1), true);
    is("THE LINE", p.x.line(), 123145);
    is("what is not kept stays", p.x.slow(1, 9), 2);
    p.x.friend(1, 2, true);
    p.x.again(1);
    is("LONG stays", p.x.of(1, 1), 9);
    is("FRIENDS stay", p.x.of(1, 6), 4);
    says(44, "Refused: nothing kept,");
    for (int i : new int[] {0, 1, -1, 2, LEAST, GREATEST}) refused(KeptEdges::keptNothing, "again(" + i + ")", 0, x -> x.again(i) ? 1 : 0);
    Probe one = Probe.eager(2);
    one.x.keep(1);
    is("nothing under 0", one.x.again(0), false);
    is("something under 1", one.x.again(1), true);
    Probe other = Probe.eager(2);
    other.x.keep(0);
    is("nothing under 1", other.x.again(1), false);
    for (int i : new int[] {-1, 2, LEAST, GREATEST}) refused(Edges::busy, "again(" + i + ")", 0, x -> x.again(i) ? 1 : 0);
    says(44, "some of PEOPLE were told since.");
    for (int i = 0; i < 2; i++) {
      int told = i;
      refused(() -> toldSince("1,1,1"), "again(" + i + ")", 0, x -> x.again(told) ? 1 : 0);
      refused(() -> toldSince("f1-2;1,1,1;f1-6"), "again(" + i + ")", 0, x -> x.again(told) ? 1 : 0);
      is("FRIENDS alone were told", toldSince("f1-2").x.again(i), true);
      is("nothing was told", toldSince("").x.again(i), true);
      Probe wrong = busy();
      wrong.town("1,1,1;x");
      is("nobody came", wrong.x.again(i), true);
      Probe anew = toldSince("1,1,1");
      anew.x.keep(i);
      is("kept since", anew.x.again(i), true);
      is("the other one was not", anew.x.again(1 - i), false);
    }
    Probe first = new Probe();
    first.x.keep(0);
    first.people("1,1,1");
    is("the first one was told since", first.x.again(0), false);
  }

  private static void count() {
    says(45, "What 0: PEOPLE, 1: how many are in THE LINE, 2: SALES that can be undone, 3: RULES told (bits), 4: the sum of all PURSES, "
        + "5: numbers of the ROW, 6: signs of THE TEXT.");
    Probe least = new Probe();
    for (int what = 0; what < 7; what++) is("the least, what " + what, least.x.count(what), 0);
    Probe most = Probe.eager(9).rules("-p*(i+1)", "0", "0", "0");
    most.x.sheet(2, 9, 999, 0);
    most.x.sum();
    most.text("x".repeat(80));
    long[] due = {9, 9, 0, 15, 9 * 999, 9, 80};
    for (int what = 0; what < 7; what++) is("the most, what " + what, most.x.count(what), due[what]);
    Probe many = pairs(99);
    many.x.run(0, 41);
    is("the most SALES", many.x.count(2), 40);
    most.x.serve(9);
    is("PEOPLE stay", most.x.count(0), 9);
    is("nobody is in it", most.x.count(1), 0);
    is("PURSES of all, not of those in it", most.x.count(4), 9 * 999);
    most.rule(0, "");
    is("RULE 0 is none", most.x.count(3), 14);
    most.rule(3, "");
    is("RULE 3 is none", most.x.count(3), 6);
    says(45, "NONE for another what.");
    for (int what : new int[] {-1, 7, LEAST, GREATEST}) refused(Edges::busy, "count(" + what + ")", -1, x -> x.count(what));
  }

  private static void line() {
    says(46, "CODE of THE LINE.");
    is("nobody", new Probe().x.line(), 1);
    is("0 alone", new Probe().people("1,1,1").x.line(), 10);
    Probe nine = Probe.eager(9);
    is("nine", nine.x.line(), 1012345678);
    nine.x.run(0, 200);
    is("the other way round", nine.x.line(), 1876543210);
    nine.x.serve(8);
    is("the last", nine.x.line(), 10);
    nine.x.serve(1);
    is("nobody is left", nine.x.line(), 1);
    Probe longest = pairs(1);
    longest.people("1,1,2;1,1,2;1,1,2;1,1,2;1,1,2;1,1,2;1,1,2");
    for (int i = 0; i < 9; i++) {
      longest.x.serve(1);
      longest.x.comes(i);
    }
    is("all came again", longest.x.line(), 1012345678);
  }

  private static void row() {
    says(47, "Number i of the ROW.");
    Probe p = Probe.eager(9);
    p.x.sum();
    is("the first", p.x.row(0), 0);
    is("the last of nine", p.x.row(8), -72);
    p.x.order();
    is("it stays", p.x.row(8), -72);
    p.x.paths(p.x.line());
    is("it stays", p.x.row(8), -72);
    says(47, "NoSuchElementException: none such.");
    throwsNone("a tenth", () -> p.x.row(9));
    for (int i : new int[] {5, -1, LEAST, GREATEST}) refused(Edges::busy, "row(" + i + ")", THROWN, x -> x.row(i));
    is("the last there is", busy().x.row(4) < 0, true);
    throwsNone("of none", () -> new Probe().x.row(0));
    Probe shorter = Probe.eager(3);
    shorter.x.sum();
    shorter.x.back(0);
    throwsNone("one that was there before", () -> shorter.x.row(1));
    shorter.x.cheapest(1012);
    throwsNone("a ROW of none", () -> shorter.x.row(0));
  }

  private static void lastCall() {
    says(0, "An object is used for at most 512 calls after it has been made; what later calls answer is free.");
    SoldToBehind x = new SoldToBehind();
    for (int i = 1; i <= 511; i++) x.seed(i);
    is("the 512th call", x.seed(0), 511);
    // 12 calls tell the town, 480 sell and undo.
    Probe p = Probe.eager(2);
    for (int i = 0; i < 240; i++) is("sold and undone", p.x.sell(1) * 10 + p.x.undo(), 10);
    is("some 500 calls later", p.x.lines(), 2);
  }
}
