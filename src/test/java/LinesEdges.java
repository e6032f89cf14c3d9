import java.math.BigInteger;
import java.util.Random;

/** Promises 28 to 37: all lines that can come, and all orders of those in the line. */
final class LinesEdges extends Edges {
  private static final int[] NOT_IN_LINE = {0, 6, 9, -1, Integer.MIN_VALUE, Integer.MAX_VALUE};
  private static final String TRIPLE = "500,1,0;500,1,1;500,1,2";

  static void all() {
    lines();
    cheapest();
    paths();
    ends();
    foremost();
    finest();
    rises();
    order();
    rests();
    places();
  }

  /** 2000 lines: 20 by 100. */
  private static Probe just2000() {
    return pairs(19, 99);
  }

  /** One more: 3 by 23 by 29. */
  private static Probe just2001() {
    return pairs(2, 22, 28);
  }

  /** 0 sells for 5 and buys back for 2, once. */
  private static Probe backAgain() {
    return new Probe().rules("-p*(5+k*4)", "-p*(9-k*7)").people("10,1,0;50,1,1");
  }

  private static void lines() {
    says(28, "How many there are of THE LINE, PURSES and SALES together;");
    is("nobody", new Probe().x.lines(), 1);
    is("one at rest", Probe.eager(9).law(0, 0, 0, 0).x.lines(), 1);
    is("like LINES with other SALES", pairs(99).x.lines(), 100);
    is("like LINES and SALES with other PURSES", new Probe().rules("-p*(i+1)*(k+1)").people("500,1,0;500,1,0;500,1,0").x.lines(), 7);
    is("as many as there can be", just2000().x.lines(), 2000);
    says(28, "the ROW: unlike LINES, how many of all are at rest, the most, the fewest SALES till one is.");
    Probe nobody = new Probe();
    tells(nobody, "nobody", nobody.x.lines(), 1, 1, 1, 0, 0);
    Probe two = pairs(99);
    tells(two, "two LINES", two.x.lines(), 100, 2, 1, 99, 99);
    Probe most = just2000();
    tells(most, "four LINES", most.x.lines(), 2000, 4, 1, 118, 118);
    Probe one = Probe.eager(7).law(0, 0, 1, 0);
    tells(one, "three or two SALES till rest", one.x.lines(), 21, 21, 5, 3, 2);
    // Sets of neighbours apart: of nine 55, of which 9 leave no two neighbours over.
    Probe nine = Probe.eager(9).law(0, 0, 1, 0);
    tells(nine, "nine, each in one SALE at most", nine.x.lines(), 55, 55, 9, 4, 3);
    says(28, "-3.");
    refused(LinesEdges::just2001, "lines() of 2001", -3, x -> x.lines());
    refused(() -> Probe.eager(9), "lines() of very many", -3, x -> x.lines());
    Probe later = just2001();
    is("too many", later.x.lines(), -3);
    later.x.law(2, 1);
    tells(later, "fewer then", later.x.lines(), 8, 8, 1, 3, 3);
  }

  private static void cheapest() {
    says(29, "The least that is paid in all (PRICES and FEES) till THE LINE is a told one (CODE): it;");
    is("nobody", new Probe().x.cheapest(1), 0);
    is("THE LINE as it is", Probe.eager(5).x.cheapest(101234), 0);
    is("all the other way round", Probe.eager(5).x.cheapest(143210), 4 + 3 * 2 + 2 * 3 + 1 * 4);
    is("with FEES", Probe.eager(5).law(0, 1, 99, 0).x.cheapest(143210), 20 + 10);
    is("1 2 1 is dearer than 2 1 2", new Probe().rules("-p*(i+1)*(k+1)").people("500,1,0;500,1,0;500,1,0").x.cheapest(1210), 5);
    Probe nine = Probe.eager(9).law(0, 0, 99, 7);
    is("of nine", nine.x.cheapest(1012345687L), 8);
    says(29, "the ROW: the SALES, PLACE by PLACE (the first 8):");
    Probe five = Probe.eager(5);
    tells(five, "none", five.x.cheapest(101234), 0, new long[0]);
    tells(five, "eight", five.x.cheapest(142301), 16, 2, 1, 3, 2, 4, 3, 2, 1);
    tells(five, "eight of nine", five.x.cheapest(143120), 18, 1, 2, 3, 2, 1, 4, 3, 2);
    tells(nine, "the last PLACE", nine.x.cheapest(1012345687L), 8, 8);
    nine.law(0, 0, 1, 0);
    tells(nine, "the first PLACE of nine", nine.x.cheapest(1102345678L), 1, 1);
    tells(nine, "four of nine", nine.x.cheapest(1103254768L), 1 + 3 + 5 + 7, 1, 3, 5, 7);
    says(29, "of equal ones the fewest, then the least row.");
    Probe fickle = pairs(99);
    tells(fickle, "one of 1, 3, .. 99", fickle.x.cheapest(110), 0, 1);
    tells(fickle, "none of 0, 2, .. 98", fickle.x.cheapest(101), 0, new long[0]);
    Probe two = pairs(9, 9);
    tells(two, "1 4, not 4 1", two.x.cheapest(110243), 0, 1, 4);
    says(29, "-2: it can't be;");
    refused(Edges::busy, "who never sells is the first", -2, x -> x.cheapest(131245));
    refused(() -> Probe.eager(9).law(0, 0, 0, 0), "MOST of 0", -2, x -> x.cheapest(1102345678L));
    Probe fewer = Probe.eager(3);
    is("it could be", fewer.x.cheapest(1102), 1);
    is("it can't any more", fewer.law(0, 0, 0, 0).x.cheapest(1102), -2);
    Probe sold = Probe.eager(2);
    sold.x.sell(1);
    is("who sold can't come ahead again", sold.x.cheapest(101), -2);
    says(29, "-3;");
    refused(LinesEdges::just2001, "THE LINE as it is, of 2001", -3, x -> x.cheapest(x.line()));
    is("of 2000", just2000().x.cheapest(110243), 0);
    says(29, "NONE: no LINE of those who are in it.");
    for (long code : wrongCodes()) refused(Edges::busy, "cheapest(" + code + ")", -1, x -> x.cheapest(code));
    for (long code : new long[] {0, 2, 10, 11, -1}) refused(Probe::new, "cheapest(" + code + ") of nobody", -1, x -> x.cheapest(code));
    is("of nine, one twice", Probe.eager(9).x.cheapest(1012345677L), -1);
    is("of nine, one more", Probe.eager(9).x.cheapest(10123456780L), -1);
    is("of 2001, none such", just2001().x.cheapest(7), -1);
  }

  /** None of these is an order of 1 to 5, who are in the line of busy(). */
  private static long[] wrongCodes() {
    return new long[] {
      0, 1, -1, 12345, 212345, 112344, 112340, 112346, 11234, 1123455, 1012345, -112345, 1112345, 10112345, 912345,
      112345 + (1L << 32), Long.MAX_VALUE, Long.MIN_VALUE, 112345L * 10,
    };
  }

  private static BigInteger choose(int n, int k) {
    BigInteger all = BigInteger.ONE;
    for (int i = 1; i <= k; i++) all = all.multiply(BigInteger.valueOf(n - k + i)).divide(BigInteger.valueOf(i));
    return all;
  }

  private static void paths() {
    says(30, "How many rows of SALES lead from now to a told LINE (CODE; with any PURSES and SALES);");
    is("nobody, no sale", new Probe().x.paths(1), 1);
    is("THE LINE as it is, no sale", Probe.eager(3).x.paths(1012), 1);
    is("by 0, 2, .. 98 SALES", pairs(99).x.paths(101), 50);
    is("by 1, 3, .. 99 SALES", pairs(99).x.paths(110), 50);
    is("with unlike PURSES", new Probe().rules("-p*(i+1)*(k+1)").people("500,1,0;500,1,0;500,1,0").x.paths(1210), 2);
    is("two pairs, one SALE each", pairs(1, 1).x.paths(110243), 2);
    says(30, "the ROW: how many lead to lines at rest.");
    Probe nobody = new Probe();
    tells(nobody, "nobody", nobody.x.paths(1), 1, 1);
    Probe three = Probe.eager(3);
    tells(three, "not those to the told one alone", three.x.paths(1012), 1, 2);
    Probe many = pairs(31, 31);
    tells(many, "very many", many.x.paths(101234) > 0 ? 1 : 0, 1, choose(62, 31).longValueExact());
    Probe wraps = pairs(43, 43);
    is("more than a long holds", choose(86, 43).bitLength() > 63, true);
    wraps.x.paths(101234);
    is("they wrap", wraps.x.row(0), choose(86, 43).longValue());
    says(30, "-2: none;");
    Probe fewer = Probe.eager(3);
    is("one", fewer.x.paths(1102), 1);
    for (long code : new long[] {1102, 1021, 1120, 1201, 1210}) is("none any more", fewer.law(0, 0, 0, 0).x.paths(code), -2);
    refused(Edges::busy, "who never sells is the first", -2, x -> x.paths(131245));
    refused(() -> Probe.eager(9).law(0, 0, 0, 0), "MOST of 0", -2, x -> x.paths(1102345678L));
    says(30, "-3;");
    refused(LinesEdges::just2001, "THE LINE as it is, of 2001", -3, x -> x.paths(x.line()));
    // Row by row of SALES of the first pair: C(a + b, a) rows lead to a SALES of the first and b of the second.
    long[] codes = {101234, 110234, 101243, 110243};
    for (int i = 0; i < 4; i++) {
      BigInteger all = BigInteger.ZERO;
      for (int a = i % 2; a <= 19; a += 2) for (int b = i / 2; b <= 99; b += 2) all = all.add(choose(a + b, a));
      is("of 2000, to " + codes[i], just2000().x.paths(codes[i]), all.longValue());
    }
    says(30, "NONE: no LINE of those who are in it.");
    for (long code : wrongCodes()) refused(Edges::busy, "paths(" + code + ")", -1, x -> x.paths(code));
    for (long code : new long[] {0, 2, 10, 11, -1}) refused(Probe::new, "paths(" + code + ") of nobody", -1, x -> x.paths(code));
    is("of 2001, none such", just2001().x.paths(7), -1);
  }

  private static void ends() {
    says(31, "PLACES (bits) one has in lines at rest that can come;");
    Probe nine = Probe.eager(9).law(0, 0, 99, 7);
    is("the last", nine.x.ends(7), 256);
    is("the last but one", nine.x.ends(8), 128);
    is("the first", nine.x.ends(0), 1);
    is("two of them", Probe.eager(3).law(0, 0, 1, 0).x.ends(1), 5);
    is("at rest as it is", Probe.eager(9).law(0, 0, 0, 0).x.ends(4), 16);
    is("alone", new Probe().people("1,1,1").x.ends(0), 1);
    says(31, "the ROW: the least, the greatest PURSE it has in them.");
    tells(nine, "one alone", nine.x.ends(8), 128, 492, 492);
    Probe both = Probe.eager(3).law(0, 0, 1, 0);
    tells(both, "unlike ones", both.x.ends(1), 5, 499, 502);
    both.x.sheet(2, 3, 0, 999);
    tells(both, "empty and full", both.x.ends(0), 3, 0, 1);
    tells(both, "full, and what it paid", both.x.ends(1), 5, 998, 999);
    both.x.sheet(3, 0, 0, 0);
    tells(both, "empty", both.x.ends(1), 2, 0, 0);
    Probe full = Probe.eager(3);
    full.x.sheet(2, 3, 999, 0);
    full.law(0, 0, 0, 0);
    tells(full, "full", full.x.ends(1), 2, 999, 999);
    says(31, "-3;");
    refused(LinesEdges::just2001, "ends(0) of 2001", -3, x -> x.ends(0));
    Probe most = just2000();
    tells(most, "of 2000", most.x.ends(1), 1, 19, 19);
    says(31, "NONE: not in THE LINE.");
    for (int person : NOT_IN_LINE) refused(Edges::busy, "ends(" + person + ")", -1, x -> x.ends(person));
    is("of 2001, none such", just2001().x.ends(8), -1);
    is("nobody", new Probe().x.ends(0), -1);
  }

  private static void foremost() {
    says(32, "The least PLACE one can come to;");
    Probe nine = Probe.eager(9).law(0, 0, 99, 7);
    is("one ahead", nine.x.foremost(8), 7);
    is("where it is", nine.x.foremost(7), 7);
    is("the first", nine.x.foremost(0), 0);
    is("to the front", Probe.eager(5).x.foremost(4), 0);
    is("alone", new Probe().people("1,1,1").x.foremost(0), 0);
    says(32, "the ROW: the greatest PURSE it has then, the fewest SALES till it has that there.");
    tells(nine, "one SALE", nine.x.foremost(8), 7, 492, 1);
    tells(nine, "none", nine.x.foremost(7), 7, 500, 0);
    Probe fickle = pairs(99);
    tells(fickle, "the fewest of 1, 3, .. 99", fickle.x.foremost(1), 0, 99, 1);
    tells(fickle, "the fewest of 0, 2, .. 98", fickle.x.foremost(0), 0, 99, 0);
    Probe back = backAgain();
    tells(back, "the greatest PURSE by two SALES", back.x.foremost(0), 0, 10 + 5 - 2, 2);
    back.x.sheet(2, 2, 999, 0);
    tells(back, "what is above 999 is lost", back.x.foremost(0), 0, 999, 0);
    says(32, "-3;");
    refused(LinesEdges::just2001, "foremost(0) of 2001", -3, x -> x.foremost(0));
    Probe most = just2000();
    tells(most, "of 2000", most.x.foremost(4), 3, 99, 1);
    says(32, "NONE: not in THE LINE.");
    for (int person : NOT_IN_LINE) refused(Edges::busy, "foremost(" + person + ")", -1, x -> x.foremost(person));
    is("of 2001, none such", just2001().x.foremost(8), -1);
    is("nobody", new Probe().x.foremost(0), -1);
  }

  /** 2, 0, 1 stand in the line, each in one sale at most. */
  private static Probe turnedLine(String zero, String one, String two) {
    Probe p = new Probe().rules(zero, one, two).people("99,1,0;99,1,1;99,1,2").law(0, 0, 1, 0);
    p.x.serve(2);
    p.x.comes(0);
    p.x.comes(1);
    return p;
  }

  private static void finest() {
    says(33, "The LINE at rest that can come with the greatest sum();");
    is("nobody", new Probe().x.finest(), 0);
    is("as it is", Probe.eager(3).law(0, 0, 0, 0).x.finest(), -8);
    is("the only one", Probe.eager(3).x.finest(), -4);
    // Not at rest a line would be worth more: the sale that can be costs both 50 by k.
    Probe worse = new Probe().rules("0-k*50", "-p*9-k*50").people("9,1,0;9,1,1");
    tells(worse, "one not at rest does not count", worse.x.finest(), -100, 110);
    // 1 first, or 2 behind 0: by MOST only one of both can be, worth 1 more or 9 more.
    Probe both = new Probe().rules("-p*(i+1)", "-p*11").people("9,1,0;9,1,0;9,1,1").law(0, 0, 1, 0);
    tells(both, "the finer of two", both.x.finest(), -11 - 2 * 2, 1021);
    // THE LINE is 2, 0, 1, and 0 buys of 2 or 1 of 0: the first is worth 2 more, the second 1.
    Probe found = turnedLine("-p*3", "-p*4", "-p");
    tells(found, "the finer of two, found first", found.x.finest(), -1 - 2 * 4, 1021);
    says(33, "of equal ones the one with the least CODE: that sum;");
    Probe equal = Probe.eager(3).law(0, 0, 1, 0);
    tells(equal, "1102 and 1021", equal.x.finest(), -7, 1021);
    Probe first = turnedLine("-p*2", "-p*3", "-p");
    tells(first, "1021 and 1210", first.x.finest(), -7, 1021);
    says(33, "the ROW: CODE.");
    Probe nobody = new Probe();
    tells(nobody, "nobody", nobody.x.finest(), 0, 1);
    Probe nine = Probe.eager(9).law(0, 0, 99, 7);
    tells(nine, "nine", nine.x.finest(), -239, 1012345687L);
    says(33, "-3.");
    refused(LinesEdges::just2001, "finest() of 2001", -3, x -> x.finest());
    Probe most = just2000();
    tells(most, "of 2000", most.x.finest(), 0, 110243);
  }

  private static void rises() {
    says(34, "Whether each SALE of all that can come makes sum() more: 1 (the ROW stays);");
    refused(Probe::new, "nobody, no SALE", 1, x -> x.rises());
    refused(() -> Probe.eager(9).law(0, 0, 0, 0), "no SALE can be", 1, x -> x.rises());
    refused(() -> pairs(1), "from -9 to 0", 1, x -> x.rises());
    refused(() -> Probe.eager(5), "by 1 each", 1, x -> x.rises());
    says(34, "0: not, the ROW: PLACE of one that does not");
    Probe nine = new Probe().rules("-p*(i+1)-k*5").people("99,1,0" + ";99,1,0".repeat(8)).law(0, 0, 99, 7);
    tells(nine, "the last", nine.x.rises(), 0, 8, 1 - 10);
    says(34, "(the one with the fewest SALES ahead of it;");
    // By its second SALE alone one is worth less: 2 by PLACES 2, 1, or the last of 1, 2, 1.
    Probe second = new Probe().rules("-p*(i+1)", "-p*(i+1)", "-p*(i+1)-(k>1)*50").people(TRIPLE);
    tells(second, "one ahead, not two", second.x.rises(), 0, 1, 3 - 1 - 50);
    says(34, "of these the one with the least row of PLACES, its own being the last),");
    Probe least = new Probe().rules("-p*(i+1)-(k>1)*50", "-p*(i+1)", "-p*(i+1)-(k>1)*70").people(TRIPLE);
    tells(least, "1 2, not 2 1", least.x.rises(), 0, 2, 3 - 1 - 50);
    Probe first = pairs(2, 2);
    tells(first, "1, not 4", first.x.rises(), 0, 1, 0);
    says(34, "by how much sum() is more behind it (0 or below).");
    Probe pays = new Probe().rules("0", "-p*9-k*9").people("9,1,0;9,1,1");
    tells(pays, "by nothing", pays.x.rises(), 0, 1, 0);
    pays.rules("0", "-p*9-k*10");
    tells(pays, "by one less", pays.x.rises(), 0, 1, -1);
    pays.rules("0", "-p*9-k*8");
    tells(pays, "by one more, the ROW stays", pays.x.rises(), 1, 1, -1);
    pays.rules("0-k*999*11", "-p*9-k*999*11");
    tells(pays, "by very much", pays.x.rises(), 0, 1, 9 - 2 * 9999);
    says(34, "-3.");
    refused(LinesEdges::just2001, "rises() of 2001", -3, x -> x.rises());
    Probe most = just2000();
    tells(most, "of 2000", most.x.rises(), 0, 1, 0);
  }

  private static Probe flat(int people) {
    return new Probe().people("1,1,0" + ";1,1,0".repeat(people - 1));
  }

  private static void order() {
    says(35, "The order with the greatest sum();");
    is("nobody", new Probe().x.order(), 0);
    is("one", new Probe().rules("q").people("77,1,0").x.order(), 77);
    is("seven", Probe.eager(7).x.order(), -56);
    is("whatever can be sold", Probe.eager(7).law(0, 99, 0, 9).x.order(), -56);
    is("the most there is", new Probe().rules("999*99").people("1,1,0" + ";1,1,0".repeat(6)).x.order(), 7 * 9999);
    is("the least there is", new Probe().rules("-999*99").people("1,1,0" + ";1,1,0".repeat(6)).x.order(), -7 * 9999);
    says(35, "of equal ones the least CODE: that sum;");
    Probe equal = flat(7);
    tells(equal, "all are equal", equal.x.order(), 0, 10123456);
    equal.x.serve(1);
    equal.x.comes(0);
    tells(equal, "whatever THE LINE is", equal.x.order(), 0, 10123456);
    says(35, "the ROW: CODE.");
    Probe nobody = new Probe();
    tells(nobody, "nobody", nobody.x.order(), 0, 1);
    Probe seven = Probe.eager(7);
    tells(seven, "seven", seven.x.order(), -56, 16543210);
    is("THE LINE stays", seven.x.line(), 10123456);
    says(35, "-3.");
    refused(() -> flat(8), "eight", -3, x -> x.order());
    refused(() -> flat(9), "nine", -3, x -> x.order());
    Probe left = flat(9);
    left.x.serve(2);
    tells(left, "seven of nine", left.x.order(), 0, 12345678);
  }

  private static void rests() {
    says(36, "In how many orders THE LINE is at rest;");
    is("nobody", new Probe().x.rests(), 1);
    is("one", flat(1).x.rests(), 1);
    is("seven, all", flat(7).x.rests(), 5040);
    is("seven, one", Probe.eager(7).x.rests(), 1);
    is("seven, MOST of 0", Probe.eager(7).law(0, 0, 0, 0).x.rests(), 5040);
    is("seven, FIRST of 5", Probe.eager(7).law(0, 0, 99, 5).x.rests(), 2520);
    says(36, "the ROW: the least CODE of them, the greatest sum() of them");
    Probe nobody = new Probe();
    tells(nobody, "nobody", nobody.x.rests(), 1, 1, 0);
    Probe first = Probe.eager(3).law(0, 0, 99, 1);
    tells(first, "of 021, 120, 210", first.x.rests(), 3, 1021, -4);
    says(36, "(none without).");
    // With PURSES and SALES as they are each sale makes sum() more, so the order of the greatest sum() is always at rest.
    Random random = new Random(36);
    for (int i = 0; i < 50; i++) {
      Probe p = anyTown(random);
      long most = p.x.order();
      is("there is always one", p.x.rests() > 0, true);
      is("two numbers", p.x.count(5), 2);
      is("the greatest sum() of all orders", p.x.row(1), most);
    }
    says(36, "-3.");
    refused(() -> flat(8), "eight", -3, x -> x.rests());
    refused(() -> flat(9), "nine", -3, x -> x.rests());
  }

  private static Probe anyTown(Random random) {
    String[] rules = {"-p*(i+1)", "-t*i", "-p*(i*7/3-p)", "-t*t/9", "(p<i)*60-t", "p*i-t*2", "-p*q/9", "(p=2)*90-t*l"};
    Probe p = new Probe();
    for (int i = 0; i < 4; i++) p.rule(i, rules[random.nextInt(rules.length)]);
    StringBuilder town = new StringBuilder();
    for (int i = 0; i < 5; i++) {
      town.append(i == 0 ? "" : ";").append(random.nextInt(200)).append(',').append(1 + random.nextInt(9)).append(',').append(random.nextInt(4));
    }
    return p.people(town.toString());
  }

  private static void places() {
    says(37, "PLACES one has in orders at rest (bits);");
    is("all seven", flat(7).x.places(3), 127);
    is("the last", Probe.eager(7).x.places(0), 64);
    is("the first", Probe.eager(7).x.places(6), 1);
    is("alone", flat(1).x.places(0), 1);
    says(37, "the ROW: the PLACE it has most often in them (the first of equal ones), how often.");
    Probe all = flat(7);
    tells(all, "all alike", all.x.places(6), 127, 0, 720);
    Probe last = Probe.eager(7);
    tells(last, "the last", last.x.places(0), 64, 6, 1);
    Probe first = Probe.eager(3).law(0, 0, 99, 1);
    tells(first, "0 in 021, 120, 210", first.x.places(0), 5, 2, 2);
    tells(first, "1 in them", first.x.places(1), 7, 0, 1);
    says(37, "0: there are none;");
    Random random = new Random(37);
    for (int i = 0; i < 50; i++) {
      Probe p = anyTown(random);
      is("there is always one", p.x.places(random.nextInt(5)) > 0, true);
    }
    says(37, "-3;");
    refused(() -> flat(8), "eight", -3, x -> x.places(0));
    refused(() -> flat(9), "nine", -3, x -> x.places(8));
    says(37, "NONE: not in THE LINE.");
    for (int person : NOT_IN_LINE) refused(Edges::busy, "places(" + person + ")", -1, x -> x.places(person));
    is("eight, none such", flat(8).x.places(8), -1);
    is("nobody", new Probe().x.places(0), -1);
  }
}
