/** Promises 21 to 27: what comes of it. */
final class OutcomeEdges extends Edges {
  private static final int[] NOT_IN_LINE = {0, 6, 9, -1, Integer.MIN_VALUE, Integer.MAX_VALUE};

  static void all() {
    sum();
    gained();
    winner();
    forward();
    back();
    stand();
    needs();
  }

  private static void sum() {
    says(21, "The sum of WORTHS of all in THE LINE, each of its PLACE;");
    Probe p = new Probe().rules("999*99").people("1,1,0" + ";1,1,0".repeat(8));
    is("the most", p.x.sum(), 9 * 9999);
    p.rules("-999*99");
    is("the least", p.x.sum(), -9 * 9999);
    p.x.serve(8);
    is("of one", p.x.sum(), -9999);
    p.x.serve(1);
    is("of nobody", p.x.sum(), 0);
    is("of nobody told", new Probe().x.sum(), 0);
    says(21, "the ROW: by PLACES.");
    Probe nine = Probe.eager(9);
    tells(nine, "nine", nine.x.sum(), -240, 0, -2, -6, -12, -20, -30, -42, -56, -72);
    nine.x.sell(1);
    tells(nine, "by PLACES, not by numbers", nine.x.sum(), -239, 0, -1, -6, -12, -20, -30, -42, -56, -72);
    nine.x.serve(8);
    tells(nine, "one", nine.x.sum(), 0, 0);
    nine.x.serve(1);
    tells(nine, "nobody", nine.x.sum(), 0, new long[0]);
    changesNothing(Edges::busy, "sum()", x -> x.sum());
  }

  private static void gained() {
    says(22, "By how much WORTH of its PLACE and PURSE of one are more now than in THE LINE AS IT CAME");
    Probe p = pair("4", "9", 10, 20);
    is("the seller, nothing yet", p.x.gained(0), 0);
    p.x.sell(1);
    is("the seller, its LOSS is paid", p.x.gained(0), 0);
    is("the buyer", p.x.gained(1), 5);
    p.x.sheet(3, 0, 0, 0);
    is("the buyer, its PURSE gone", p.x.gained(1), 9 - 20);
    is("the seller, its PURSE gone", p.x.gained(0), -4 - 10);
    says(22, "(WORTH of the PLACE it had there, THE LINE and its PURSE being as then, k as now);");
    // As it came THE LINE is 0, 1, 2, and 2 has 90 coins; LONG is as now both times.
    Probe then = new Probe().rules("0-p", "0-t*9", "q*10-t").people("99,2,0;99,1,1;90,1,2");
    then.x.sell(1);
    then.x.slow(0, 5);
    then.x.sheet(2, 3, 40, 0);
    then.x.law(1, 1);
    is("2 stands as it stood", then.x.of(2, 4), 2);
    tells(then, "its PURSE then", then.x.gained(2), (40 - 90) * 10 - 50, -500, -50);
    then.rules("0-p", "0-t*9", "0-t*100");
    is("2 buys", then.x.sell(2), 1);
    tells(then, "THE LINE then", then.x.gained(2), 500 + 40 - 2 - 90, 500, -52);
    then.rules("0-p", "0-t*9", "k*7");
    tells(then, "k as now", then.x.gained(2), -52, 0, -52);
    then.rules("0-p", "0-t*9", "n");
    tells(then, "as many are in it", then.x.gained(2), -52, 0, -52);
    then.rules("0-p", "0-t*9", "p*10");
    tells(then, "its PLACE then", then.x.gained(2), -10 - 52, -10, -52);
    says(22, "the ROW: both parts.");
    Probe full = pair("0", "9", 0, 999);
    full.x.sheet(3, 0, 0, 0);
    tells(full, "a full PURSE is gone", full.x.gained(1), -999, 0, -999);
    full.x.serve(0);
    full.x.sheet(2, 2, 999, 0);
    full.x.sell(1);
    tells(full, "and is there again", full.x.gained(1), 1008, 9, 999);
    Probe widest = new Probe().rules("0", "999*11-(p=1)*999*22").people("9,1,0;9,1,1");
    widest.x.sell(1);
    tells(widest, "the widest", widest.x.gained(1), 2 * 9999, 2 * 9999, 0);
    says(22, "NoSuchElementException: not in THE LINE.");
    for (int person : NOT_IN_LINE) refused(Edges::busy, "gained(" + person + ")", THROWN, x -> x.gained(person));
    throwsNone("of nobody", () -> new Probe().x.gained(0));
  }

  private static void winner() {
    says(23, "The one of THE LINE who gained() the most;");
    Probe p = Probe.three();
    p.x.sell(1);
    tells(p, "one gained", p.x.winner(), 1, 9, 2);
    p.x.sheet(2, 3, 0, 5);
    tells(p, "all lost, one of them least", p.x.winner(), 0, -1 + 0 - 10, 3);
    says(23, "of equal ones the first in THE LINE: it;");
    Probe equal = Probe.eager(3);
    tells(equal, "nobody gained", equal.x.winner(), 0, 0, 3);
    equal.x.serve(1);
    equal.x.comes(0);
    tells(equal, "the first in it", equal.x.winner(), 1, 0, 3);
    Probe later = Probe.eager(3);
    later.law(2, 0, 99, 0).x.sell(2);
    later.law(0, 0, 99, 0).x.sheet(2, 3, 500, 0);
    // 2 came forward, worth 3; 1 went back, -2.
    tells(later, "the second in it", later.x.winner(), 2, 3, 2);
    says(23, "the ROW: how much, how many gained nothing or lost.");
    Probe all = Probe.eager(3);
    all.x.sheet(2, 3, 501, 0);
    tells(all, "all gained", all.x.winner(), 0, 1, 0);
    all.x.sheet(2, 3, 500, 1);
    tells(all, "one gained nothing", all.x.winner(), 2, 2, 1);
    all.x.sheet(2, 3, 499, 1);
    tells(all, "one lost, one gained nothing", all.x.winner(), 2, 1, 2);
    all.x.sheet(3, 0, 0, 0);
    tells(all, "all lost", all.x.winner(), 0, -500, 3);
    says(23, "-2: nobody.");
    refused(Probe::new, "nobody is told of", -2, x -> x.winner());
    Probe gone = Probe.eager(2);
    gone.x.serve(2);
    tells(gone, "nobody is left", gone.x.winner(), -2, 0, 2);
  }

  private static void forward() {
    says(24, "How far one comes forward by its own purchases alone, one behind the other, as long as each CAN BE: its PLACE then;");
    Probe p = Probe.eager(9);
    is("to the front", p.x.forward(8), 0);
    is("it is there", p.x.forward(0), 0);
    is("MOST of 8", p.law(0, 0, 8, 0).x.forward(8), 0);
    is("MOST of 7", p.law(0, 0, 7, 0).x.forward(8), 1);
    is("MOST of 0", p.law(0, 0, 0, 0).x.forward(8), 8);
    is("FIRST of 1", p.law(0, 0, 99, 1).x.forward(8), 1);
    is("FIRST of 7", p.law(0, 0, 99, 7).x.forward(8), 7);
    is("FIRST of 8", p.law(0, 0, 99, 8).x.forward(8), 8);
    Probe stubborn = new Probe().rules("-p*(i+1)").people("9,1,0;9,1,0!;9,1,0;9,1,0");
    is("one who never sells is ahead", stubborn.x.forward(3), 2);
    // 1 would buy of 0, and 2 of 0 then, but not of 1.
    Probe alone = new Probe().rules("-p*(i+1)", "-p*9").people("9,1,0;99,1,1;99,1,0");
    is("others buy nothing meanwhile", alone.x.forward(2), 2);
    is("alone", new Probe().people("1,1,0").x.forward(0), 0);
    says(24, "the ROW: what it paid, its PURSE then.");
    Probe purse = Probe.eager(9);
    tells(purse, "with 500", purse.x.forward(8), 0, 36, 464);
    purse.x.sheet(2, 9, 36, 0);
    tells(purse, "with just enough", purse.x.forward(8), 0, 36, 0);
    purse.x.sheet(2, 9, 35, 0);
    tells(purse, "with one less", purse.x.forward(8), 1, 35, 0);
    purse.x.sheet(2, 9, 7, 0);
    tells(purse, "with too little", purse.x.forward(8), 8, 0, 7);
    purse.x.sheet(2, 9, 44, 0);
    tells(purse, "with FEES", purse.law(0, 1, 99, 0).x.forward(8), 0, 44, 0);
    purse.x.sheet(2, 9, 43, 0);
    tells(purse, "with FEES, one less", purse.x.forward(8), 1, 42, 1);
    tells(purse, "the first", purse.x.forward(0), 0, 0, 43);
    says(24, "Nothing changes.");
    for (int person = 1; person < 6; person++) {
      int told = person;
      changesNothing(Edges::busy, "forward(" + person + ")", x -> x.forward(told));
    }
    changesNothing(() -> Probe.eager(9), "forward(8)", x -> x.forward(8));
    says(24, "NONE: not in THE LINE.");
    for (int person : NOT_IN_LINE) refused(Edges::busy, "forward(" + person + ")", -1, x -> x.forward(person));
    is("nobody", new Probe().x.forward(0), -1);
  }

  private static void back() {
    says(25, "How far one goes back by its own sales alone, one behind the other, as long as each CAN BE: its PLACE then;");
    Probe p = Probe.eager(9);
    is("to the end", p.x.back(0), 8);
    is("it is there", p.x.back(8), 8);
    is("MOST of 8", p.law(0, 0, 8, 0).x.back(0), 8);
    is("MOST of 7", p.law(0, 0, 7, 0).x.back(0), 7);
    is("MOST of 0", p.law(0, 0, 0, 0).x.back(0), 0);
    is("FIRST of 1", p.law(0, 0, 99, 1).x.back(0), 0);
    is("FIRST of 1, from PLACE 1", p.x.back(1), 8);
    is("FIRST of 8, from PLACE 7", p.law(0, 0, 99, 8).x.back(7), 7);
    Probe stubborn = new Probe().rules("-p*(i+1)").people("9,1,0!;9,1,0;9,1,0!;9,1,0");
    is("one who never sells", stubborn.x.back(0), 0);
    is("it sells to one who never does", stubborn.x.back(1), 3);
    stubborn.x.sheet(2, 4, 9, -3);
    is("the last has nothing", stubborn.x.back(1), 2);
    is("alone", new Probe().people("1,1,0").x.back(0), 0);
    says(25, "the ROW: what it got.");
    Probe got = Probe.eager(9);
    tells(got, "LOSS", got.x.back(0), 8, 8);
    tells(got, "GAIN", got.law(2, 0, 99, 0).x.back(0), 8, 2 + 3 + 4 + 5 + 6 + 7 + 8 + 9);
    tells(got, "without FEES", got.law(0, 1, 99, 0).x.back(0), 8, 8);
    tells(got, "nothing, the last", got.x.back(8), 8, 0);
    got.x.friend(0, 1, true);
    tells(got, "nothing of a friend", got.law(0, 0, 99, 0).x.back(0), 8, 7);
    // The document leaves open whether what is lost above 999 was got; PRICES are told here.
    got.x.sheet(2, 9, 999, 0);
    tells(got, "PRICES, to a full PURSE", got.x.back(0), 8, 7);
    says(25, "Nothing changes.");
    for (int person = 1; person < 6; person++) {
      int told = person;
      changesNothing(Edges::busy, "back(" + person + ")", x -> x.back(told));
    }
    changesNothing(() -> Probe.eager(9), "back(0)", x -> x.back(0));
    says(25, "NONE: not in THE LINE.");
    for (int person : NOT_IN_LINE) refused(Edges::busy, "back(" + person + ")", -1, x -> x.back(person));
    is("nobody", new Probe().x.back(0), -1);
  }

  /** Eight in the line, 0 outside. */
  private static Probe eightOfNine() {
    Probe p = Probe.eager(9);
    p.x.serve(1);
    return p;
  }

  private static void stand() {
    says(26, "If one who is not in THE LINE stood at a PLACE (0 .. the end), all from there on one further back, and went back as back():");
    Probe p = eightOfNine();
    tells(p, "ahead of eight", p.x.stand(0), 0, 8, 8);
    Probe empty = Probe.eager(2);
    empty.x.serve(2);
    tells(empty, "alone", empty.x.stand(0), 0, 0, 0);
    tells(empty, "alone", empty.x.stand(1), 0, 0, 0);
    // 0 loses as much as there are in the line: 9 with it.
    p.rules("-p*(i+n)");
    tells(p, "it counts itself", p.x.stand(0), 0, 8 * 9, 8);
    // 1 and 2 gain the minutes of those ahead of them: behind 0 they have its 9 too.
    Probe t = new Probe().rules("0", "-t").people("9,9,0;99,1,1;99,1,1").law(2, 0, 99, 0);
    t.x.serve(1);
    tells(t, "by its own minutes", t.x.stand(0), 0, 18, 2);
    // Of FIRST 1 only PLACE 2 is sold: to 2, who stands there if 0 came ahead of it.
    tells(t, "one further back", t.law(2, 0, 99, 1).x.stand(0), 1, 9, 2);
    says(26, "the PLACE with the most it got;");
    Probe most = eightOfNine();
    tells(most, "MOST of 1, the dearest", most.law(2, 0, 1, 0).x.stand(0), 7, 9, 8);
    tells(most, "MOST of 2, the two dearest", most.law(2, 0, 2, 0).x.stand(0), 6, 8 + 9, 8);
    says(26, "of equal ones the last: it;");
    tells(most, "MOST of 1, LOSS: all alike", most.law(0, 0, 1, 0).x.stand(0), 7, 1, 8);
    tells(most, "nothing anywhere", most.law(0, 0, 0, 0).x.stand(0), 8, 0, 8);
    says(26, "the ROW: that, where it comes to.");
    Probe poor = eightOfNine();
    poor.x.sheet(2, 8, 1, 0);
    tells(poor, "the last has nothing", poor.x.stand(0), 0, 7, 7);
    says(26, "NONE: in THE LINE, none such.");
    for (int person : new int[] {1, 2, 5, 6, 9, -1, Integer.MIN_VALUE, Integer.MAX_VALUE}) {
      refused(Edges::busy, "stand(" + person + ")", -1, x -> x.stand(person));
    }
    is("nobody", new Probe().x.stand(0), -1);
    says(26, "Nothing changes.");
    changesNothing(Edges::busy, "stand(0)", x -> x.stand(0));
    changesNothing(OutcomeEdges::eightOfNine, "stand(0)", x -> x.stand(0));
  }

  private static void needs() {
    says(27, "The least PURSE (0 .. 999) with which, all else as it is, one would come forward() to PLACE 0;");
    is("it is there", Probe.eager(2).x.needs(0), 0);
    is("it is there, by q", new Probe().rules("-p*q").people("9,1,0;9,1,0").x.needs(0), 0);
    is("for nothing", pair("0", "9", 0, 0).x.needs(1), 0);
    is("for 1", pair("1", "9", 0, 0).x.needs(1), 1);
    is("for 999", pair("999", "999+1", 0, 0).x.needs(1), 999);
    is("for 998 and a FEE of 1", pair("998", "999", 0, 0).law(0, 1, 99, 0).x.needs(1), 999);
    is("of eight", Probe.eager(9).x.needs(8), 36);
    is("by q, the greatest alone", new Probe().rules("0", "-p*9*(q=999)").people("0,1,0;0,1,1").x.needs(1), 999);
    is("by q, of PLACE 0 alone", new Probe().rules("0", "(p=0)*9*(q=999)").people("0,1,0;0,1,1").x.needs(1), 999);
    is("by q, none is the least", new Probe().rules("0", "-p*9*(q=0)").people("0,1,0;9,1,1").x.needs(1), 0);
    is("by q, the least of many", new Probe().rules("-p*5", "-p*9*(q>6)*(q<8)-p*9*(q>99)").people("0,1,0;9,1,1").x.needs(1), 7);
    says(27, "the ROW: what it would pay.");
    Probe p = Probe.eager(9);
    tells(p, "for nothing", p.x.needs(0), 0, 0);
    tells(p, "of eight", p.x.needs(8), 36, 36);
    tells(p, "with FEES", p.law(0, 1, 99, 0).x.needs(8), 44, 44);
    Probe q = new Probe().rules("-p*5", "-p*9*(q>99)").people("0,1,0;0,1,1");
    tells(q, "less than it needs", q.x.needs(1), 100, 5);
    says(27, "-2: with none;");
    is("for 1000", pair("999+1", "999+2", 0, 0).x.needs(1), -2);
    is("for 999 and a FEE of 1", pair("999", "999+1", 0, 0).law(0, 1, 99, 0).x.needs(1), -2);
    is("by q, more than there can be", new Probe().rules("0", "-p*9*(q>999)").people("0,1,0;0,1,1").x.needs(1), -2);
    refused(() -> pair("5", "5", 9, 9), "GAIN is LOSS", -2, x -> x.needs(1));
    refused(Edges::busy, "behind one who never sells", -2, x -> x.needs(5));
    says(27, "NONE: not in THE LINE.");
    for (int person : NOT_IN_LINE) refused(Edges::busy, "needs(" + person + ")", -1, x -> x.needs(person));
    is("nobody", new Probe().x.needs(0), -1);
    says(27, "Nothing changes.");
    for (int person = 1; person < 6; person++) {
      int told = person;
      changesNothing(Edges::busy, "needs(" + person + ")", x -> x.needs(told));
    }
    changesNothing(() -> Probe.eager(9), "needs(8)", x -> x.needs(8));
  }
}
