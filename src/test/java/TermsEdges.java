/** The document's Terms. */
final class TermsEdges extends Edges {
  static void all() {
    people();
    theTown();
    rules();
    things();
    worths();
    sales();
    prices();
    canBe();
    paid();
    laws();
    draws();
    lineAsItCame();
    codesAndRows();
    tooMany();
  }

  private static void people() {
    says(0, "PEOPLE 0 .. (at most 9):");
    Probe nine = Probe.eager(9);
    is("nine", nine.x.count(0), 9);
    is("the ninth", nine.x.of(8, 4), 8);
    is("a tenth", nine.town("1,1,0"), -1);
    is("nine stay", nine.x.count(0), 9);
    throwsNone("of the tenth", () -> nine.x.of(9, 0));
    says(0, "PURSE 0 .. 999,");
    Probe purses = new Probe().people("0,1,0;999,1,0");
    is("the least", purses.x.of(0, 0), 0);
    is("the most", purses.x.of(1, 0), 999);
    is("below and above it", purses.x.sheet(2, 2, -1, 1001), 999);
    is("no more than it", purses.x.of(1, 0), 999);
    is("no less than it", purses.x.of(0, 0), 0);
    says(0, "LONG 1 .. 9 (minutes it is served),");
    Probe longs = new Probe().people("1,1,0;1,9,0");
    tells(longs, "one minute", longs.x.serve(1), 1, 0, 1);
    tells(longs, "nine minutes", longs.x.serve(1), 1, 0, 9);
    is("none", longs.town("1,0,0"), -3);
    says(0, "a RULE 0 .. 3,");
    Probe rules = new Probe().rules("5", "6", "7", "8").people("1,1,0;1,1,3");
    is("by RULE 0", rules.x.worth(0, 0), 5);
    is("by RULE 3", rules.x.worth(1, 1), 8);
    is("RULE 4", rules.town("1,1,4"), -5);
    says(0, "STUBBORN or not (never sells),");
    Probe stubborn = new Probe().rules("-p*(i+1)").people("9,1,0!;9,1,0;9,1,0!");
    is("one who is can't sell", stubborn.x.sell(1), -2);
    is("one who is not can, to one who is", stubborn.x.sell(2), 1 + 1);
    is("it still can't be bought from", stubborn.x.run(0, 200), 0);
    says(0, "FRIENDS (both ways; at first none).");
    Probe friends = new Probe().people("1,1,0;1,1,0;1,1,0");
    for (int i = 0; i < 3; i++) is("at first none", friends.x.of(i, 6), 0);
    friends.people("f2-0");
    is("of 2", friends.x.of(2, 6), 1);
    is("of 0", friends.x.of(0, 6), 4);
    is("of 1", friends.x.of(1, 6), 0);
    says(0, "THE LINE: some of them, one behind the other: PLACE 0 is the first.");
    Probe line = Probe.three();
    is("the first", line.x.of(0, 4), 0);
    is("the last", line.x.of(2, 4), 2);
    line.x.serve(1);
    is("not in it", line.x.of(0, 4), -1);
    is("the first then", line.x.of(1, 4), 0);
  }

  private static void theTown() {
    String seven = "111,1,1!;111,1,1!;111,1,1!;111,1,1!;111,1,1!;111,1,1!;111,1,1!;";
    says(0, "THE TOWN is a text of at most 76 signs:");
    is("76", new Probe().town(seven + "111,1,1;1,1,1"), 9);
    is("77", new Probe().town(seven + "111,1,1;11,1,1"), -77);
    says(0, "LINES with ; between,");
    is("one", new Probe().town("1,1,1"), 1);
    is("two", new Probe().town("1,1,1;1,1,1"), 2);
    is("none between", new Probe().town("1,1,1;;1,1,1"), -7);
    is("none ahead", new Probe().town(";1,1,1"), -1);
    is("none behind", new Probe().town("1,1,1;"), -7);
    says(0, "what they tell comes behind what there is:");
    Probe more = new Probe().people("11,1,1;12,1,1").people("13,1,1;f0-2");
    is("it has the next number", more.x.of(2, 0), 13);
    is("those who were there stay", more.x.of(0, 0), 11);
    is("and can be told of", more.x.of(0, 6), 4);
    says(0, "one of PEOPLE: PURSE, a comma, LONG, a comma, RULE, and perhaps ! (STUBBORN);");
    is("with !", new Probe().people("7,8,3!").x.of(0, 3), 1);
    is("without", new Probe().people("7,8,3").x.of(0, 3), 0);
    is("twice", new Probe().town("7,8,3!!"), -7);
    is("the purse", new Probe().people("7,8,3!").x.of(0, 0), 7);
    is("the long", new Probe().people("7,8,3!").x.of(0, 1), 8);
    is("the rule", new Probe().people("7,8,3!").x.of(0, 2), 3);
    says(0, "it comes to the end of THE LINE;");
    Probe end = new Probe().people("1,1,1;1,1,1");
    end.x.serve(1);
    end.people("1,1,1");
    is("behind those who are in it", end.x.line(), 112);
    end.x.serve(2);
    end.people("1,1,1");
    is("the first of an empty one", end.x.line(), 13);
    says(0, "or f, one of PEOPLE, -, another one (FRIENDS).");
    is("friends", new Probe().people("1,1,1;1,1,1;f1-0").x.of(0, 6), 2);
    is("without one", new Probe().town("1,1,1;1,1,1;f-0"), -14);
    is("without -", new Probe().town("1,1,1;1,1,1;f10"), -15);
    is("without the other", new Probe().town("1,1,1;1,1,1;f1-"), -16);
    is("not another one", new Probe().town("1,1,1;1,1,1;f1-1"), -16);
    says(0, "PURSE has 1 to 3 digits, all others are digits.");
    is("no digit", new Probe().town(",1,1"), -1);
    is("one", new Probe().people("0,1,1").x.of(0, 0), 0);
    is("three", new Probe().people("009,1,1").x.of(0, 0), 9);
    is("four", new Probe().town("0009,1,1"), -4);
    is("a LONG of two", new Probe().town("1,11,1"), -4);
    is("a RULE of two", new Probe().town("1,1,11"), -6);
    is("FRIENDS of two", new Probe().town("1,1,1;1,1,1;f00-1"), -15);
    is("another one of two", new Probe().town("1,1,1;1,1,1;f0-11"), -17);
  }

  private static void rules() {
    says(0, "RULES are texts of at most 40 signs (at first none: 0).");
    Probe p = new Probe().people("77,3,0;1,1,3");
    is("at first", p.x.worth(0, 0), 0);
    is("at first", p.x.worth(1, 1), 0);
    String forty = "1+1+1+1+1+1+1+1+1+1+1+1+1+1+1+1+1+1+1+11";
    is("40", p.rule(0, forty), 0);
    is("40", p.x.worth(0, 0), 19 + 11);
    is("41", p.rule(0, forty + "1"), -41);
    says(0, "EXPRESSION: < > = bind least (two; 1 or 0; not one behind the other),");
    is("least", value("1+1<3"), 1);
    is("least", value("3<1+1"), 0);
    is("least", value("2*3=6"), 1);
    is("equal is not less", value("2<2"), 0);
    is("equal is not more", value("2>2"), 0);
    is("less", value("1<2"), 1);
    is("more", value("1>2"), 0);
    is("equal", value("1=2"), 0);
    for (String one : new String[] {"<", ">", "="}) {
      for (String other : new String[] {"<", ">", "="}) {
        is("one behind the other", new Probe().rule(0, "1" + one + "2" + other + "3"), -4);
        is("behind ( )", value("(1" + one + "2)" + other + "9") != THROWN, true);
      }
    }
    is("without the second", new Probe().rule(0, "1<"), -3);
    is("without the first", new Probe().rule(0, "<1"), -1);
    says(0, "then + - (from the left),");
    is("from the left", value("9-3-2"), 4);
    is("from the left", value("9-3+2"), 8);
    says(0, "then * / (from the left; by 0: 0; cut to 0),");
    is("ahead of + -", value("9-3*2"), 3);
    is("from the left", value("8/4*2"), 4);
    is("from the left", value("7/2*2"), 6);
    is("by 0", value("8/0"), 0);
    is("by 0", value("-8/(1-1)"), 0);
    is("0 by 0", value("0/0"), 0);
    is("goes on behind it", value("8/0+5"), 5);
    is("cut", value("7/2"), 3);
    is("cut to 0 from below", value("-7/2"), -3);
    is("cut to 0 from below", value("7/-2"), -3);
    is("both below", value("-7/-2"), 3);
    is("nothing of it left", value("-1/2"), 0);
    says(0, "then - ahead of a thing (any many);");
    is("one", value("-5"), -5);
    is("two", value("--5"), 5);
    is("behind a -", value("9---5"), 4);
    is("behind a *", value("2*--5"), 10);
    is("ahead of ( )", value("-(5)"), -5);
    is("binds most", value("-7/2*2"), -6);
    is("39", value("-".repeat(39) + "5"), -5);
    is("38", value("-".repeat(38) + "5"), 5);
  }

  private static void things() {
    says(0, "things: a NUMBER of 1 to 3 digits,");
    is("one", value("9"), 9);
    is("three", value("999"), 999);
    is("three, from 0", value("009"), 9);
    is("four", new Probe().rule(0, "1000"), -4);
    is("four, from 0", new Probe().rule(0, "0009"), -4);
    is("four, the second", new Probe().rule(0, "1+1000"), -6);
    says(0, "an EXPRESSION in ( ) (at most 4 in one another),");
    is("four", value("((((7))))"), 7);
    is("five", new Probe().rule(0, "(((((7)))))"), -5);
    is("four twice", value("((((7))))-((((2))))"), 5);
    is("five, the second", new Probe().rule(0, "(((7)-(((2)"), -9);
    is("none in it", new Probe().rule(0, "()"), -2);
    says(0, "a sign: t the sum of LONG of all ahead,");
    Probe p = new Probe();
    p.people("0,9,0;999,8,1;0,7,0;0,6,0;0,5,0;0,4,0;0,3,0;0,2,0;999,1,2");
    p.rules("t", "t", "t");
    is("of none", p.x.worth(0, 0), 0);
    is("of all others", p.x.worth(8, 8), 44);
    is("of all others", p.x.worth(0, 8), 36);
    says(0, "p the PLACE,");
    p.rules("p", "p", "p");
    is("the first", p.x.worth(8, 0), 0);
    is("the last", p.x.worth(0, 8), 8);
    says(0, "n how many there are in THE LINE,");
    p.rules("n", "n", "n");
    is("nine", p.x.worth(0, 0), 9);
    p.x.serve(8);
    is("one", p.x.worth(8, 0), 1);
    says(0, "l its own LONG,");
    p.rules("l", "l", "l");
    p.x.comes(0);
    is("nine", p.x.worth(0, 0), 9);
    is("one", p.x.worth(8, 1), 1);
    says(0, "i its number,");
    p.rules("i", "i", "i");
    is("the first", p.x.worth(0, 0), 0);
    is("the last", p.x.worth(8, 1), 8);
    says(0, "q its PURSE,");
    p.rules("q", "q", "q");
    is("empty", p.x.worth(0, 0), 0);
    is("full", p.x.worth(8, 1), 999);
    says(0, "k how many SALES it was in (either side) so far.");
    Probe k = pair("0", "1", 9, 9);
    k.x.sell(1);
    k.rules("k", "k");
    is("of the buyer", k.x.worth(1, 0), 1);
    is("of the seller", k.x.worth(0, 1), 1);
    k.x.undo();
    is("none", k.x.worth(1, 0), 0);
    Probe most = pairs(99);
    most.x.run(0, 200);
    most.rules("k");
    is("the most there can be", most.x.worth(0, 0), 99);
  }

  private static void worths() {
    says(0, "As ints, put to -9999 .. 9999:");
    is("9999", value("999*10+9"), 9999);
    is("10000", value("999*10+10"), 9999);
    is("-9999", value("-999*10-9"), -9999);
    is("-10000", value("-999*10-10"), -9999);
    is("put to it only at the end", value("999*999/999"), 999);
    is("the greatest int", value("512*512*512*16-1"), 9999);
    is("one more wraps", value("512*512*512*16"), -9999);
    is("and is below 0", value("(512*512*512*16<0)*7"), 7);
    is("twice as much is 0", value("512*512*512*32"), 0);
    is("less the least is the least", value("-(512*512*512*16)"), -9999);
    is("the least by -1 is the least", value("512*512*512*16/-1"), -9999);
    is("the least by -2", value("512*512*512*16/-2"), 9999);
    is("the least less 1", value("512*512*512*16-1>0"), 1);
    says(0, "WORTH of a PLACE to one, as THE LINE is (at another PLACE: as if it stood there, those ahead being those that would be).");
    Probe p = new Probe().rules("t*10+p").people("1,1,0;1,2,0;1,4,0");
    is("the first at the end", p.x.worth(0, 2), 62);
    is("the first in the middle", p.x.worth(0, 1), 21);
    is("the middle at the end", p.x.worth(1, 2), 52);
    is("the middle where it is", p.x.worth(1, 1), 11);
    is("the last in the middle", p.x.worth(2, 1), 11);
    is("the last at the front", p.x.worth(2, 0), 0);
  }

  private static void sales() {
    says(0, "A SALE of PLACE p (1 .. ): who stands there buys from who stands at p less 1: they change their PLACES.");
    Probe p = Probe.eager(9);
    is("of the last PLACE", p.x.sell(8), 8);
    is("line()", p.x.line(), 1012345687L);
    is("of the first that can be", p.x.sell(1), 1);
    is("line()", p.x.line(), 1102345687L);
    is("of PLACE 0", p.x.sell(0), -1);
    is("of the end", p.x.sell(9), -1);
    is("who buys pays", p.x.of(8, 0), 500 - 8);
    is("who sells gets it", p.x.of(7, 0), 500 + 8);
    says(0, "GAIN: by how much WORTH of the buyer would be more there,");
    Probe g = new Probe().rules("0", "0-t*5").people("9,3,0;9,1,1");
    tells(g, "by the minutes of the seller", g.x.can(1), 1, 15, 0, 0);
    says(0, "LOSS: by how much WORTH of the seller would be less");
    Probe l = new Probe().rules("0-t*5", "0").people("9,3,0;9,1,1");
    tells(l, "by the minutes of the buyer", l.x.can(1), 0, 0, 5, 5);
    says(0, "(both with q and k as they are; each may be below 0).");
    Probe q = new Probe().rules("-p*(q-7)", "-p*q").people("10,1,0;50,1,1");
    tells(q, "by purses ahead of it", q.x.can(1), 1, 50, 3, 3);
    Probe k = new Probe().rules("-p*k*10", "-p*5").people("99,1,0;99,1,1");
    tells(k, "by sales ahead of it", k.x.can(1), 1, 5, 0, 0);
    k.x.sell(1);
    tells(k, "and behind it", k.x.can(1), 1, 10, 5, 5);
    Probe below = pair("-7", "-3", 9, 9);
    tells(below, "both below 0", below.x.can(1), 0, -3, -7, 0);
    Probe one = pair("-7", "3", 9, 9);
    tells(one, "LOSS below 0", one.x.can(1), 1, 3, -7, 0);
    Probe other = pair("7", "-3", 9, 9);
    tells(other, "GAIN below 0", other.x.can(1), 0, -3, 7, 7);
    Probe widest = pair("0-999*99", "999*99", 9, 9);
    tells(widest, "the widest", widest.x.can(1), 0 + 1, 9999, -9999, 0);
  }

  private static void prices() {
    says(0, "PRICE by THE LAW: sort 0: LOSS, 1: half of LOSS and GAIN (cut to 0), 2: GAIN;");
    Probe p = pair("4", "9", 9, 99);
    tells(p, "sort 0", p.law(0, 0, 99, 0).x.can(1), 1, 9, 4, 4);
    tells(p, "sort 1, cut", p.law(1, 0, 99, 0).x.can(1), 1, 9, 4, 6);
    tells(p, "sort 2", p.law(2, 0, 99, 0).x.can(1), 1, 9, 4, 9);
    Probe even = pair("5", "9", 9, 99);
    tells(even, "sort 1, nothing cut", even.law(1, 0, 99, 0).x.can(1), 1, 9, 5, 7);
    says(0, "0 at least;");
    Probe below = pair("-7", "-3", 9, 9);
    for (int sort = 0; sort < 3; sort++) tells(below, "sort " + sort, below.law(sort, 0, 99, 0).x.can(1), 0, -3, -7, 0);
    Probe half = pair("-7", "6", 9, 9);
    tells(half, "half of -1, cut", half.law(1, 0, 99, 0).x.can(1), 1, 6, -7, 0);
    Probe more = pair("-7", "9", 9, 9);
    tells(more, "half of 2", more.law(1, 0, 99, 0).x.can(1), 1, 9, -7, 1);
    says(0, "between FRIENDS 0.");
    Probe friends = pair("4", "9", 9, 99);
    friends.x.friend(0, 1, true);
    for (int sort = 0; sort < 3; sort++) tells(friends, "sort " + sort, friends.law(sort, 0, 99, 0).x.can(1), 1, 9, 4, 0);
    Probe third = new Probe().rules("-p*(i+1)").people("9,1,0;9,1,0;9,1,0;f0-2");
    tells(third, "not of a friend of another", third.x.can(1), 1, 2, 1, 1);
  }

  private static void canBe() {
    says(0, "It CAN BE, if the seller is not STUBBORN,");
    Probe s = new Probe().rules("-p*(i+1)").people("9,1,0;9,1,0!;9,1,0");
    is("the seller is", s.x.can(2), 0);
    is("the buyer is", s.x.can(1), 1);
    says(0, "GAIN is above LOSS,");
    is("it is LOSS", pair("5", "5", 9, 9).x.can(1), 0);
    is("one more", pair("5", "6", 9, 9).x.can(1), 1);
    is("one less", pair("5", "4", 9, 9).x.can(1), 0);
    Probe friends = pair("5", "5", 9, 9);
    friends.x.friend(0, 1, true);
    is("between friends too", friends.x.can(1), 0);
    says(0, "GAIN is PRICE and FEE at least,");
    Probe fee = pair("5", "9", 9, 99);
    is("it is PRICE and FEE", fee.law(0, 4, 99, 0).x.can(1), 1);
    is("one less", fee.law(0, 5, 99, 0).x.can(1), 0);
    is("GAIN is PRICE", fee.law(2, 0, 99, 0).x.can(1), 1);
    is("GAIN is PRICE, and a FEE", fee.law(2, 1, 99, 0).x.can(1), 0);
    is("GAIN below 0, above LOSS", pair("-7", "-3", 9, 9).x.can(1), 0);
    is("GAIN of 0, above LOSS", pair("-7", "0", 9, 9).x.can(1), 1);
    fee.x.friend(0, 1, true);
    is("the FEE between friends", fee.law(0, 9, 99, 0).x.can(1), 1);
    is("a FEE above GAIN between friends", fee.law(0, 10, 99, 0).x.can(1), 0);
    says(0, "PURSE of the buyer too,");
    Probe purse = pair("5", "50", 99, 9).law(0, 4, 99, 0);
    is("it is PRICE and FEE", purse.x.can(1), 1);
    is("one less", purse.law(0, 5, 99, 0).x.can(1), 0);
    is("an empty one, nothing to pay", pair("0", "1", 0, 0).x.can(1), 1);
    is("an empty one, a coin to pay", pair("1", "2", 0, 0).x.can(1), 0);
    is("a full one", pair("999", "999+1", 0, 999).x.can(1), 1);
    is("a full one, a coin more", pair("999+1", "999+2", 0, 999).x.can(1), 0);
    says(0, "neither was in MOST SALES or more,");
    Probe seller = Probe.eager(3);
    seller.x.sell(1);
    is("the seller was in one of one", seller.law(0, 0, 1, 0).x.can(2), 0);
    is("the seller was in one of two", seller.law(0, 0, 2, 0).x.can(2), 1);
    is("the seller was in more", seller.law(0, 0, 0, 0).x.can(2), 0);
    Probe buyer = Probe.eager(3);
    buyer.x.sell(2);
    is("the buyer was in one of one", buyer.law(0, 0, 1, 0).x.can(1), 0);
    is("the buyer was in one of two", buyer.law(0, 0, 2, 0).x.can(1), 1);
    is("the buyer was in more", buyer.law(0, 0, 0, 0).x.can(1), 0);
    is("neither was in any", Probe.eager(3).law(0, 0, 1, 0).x.can(1), 1);
    says(0, "and p is above FIRST.");
    Probe first = Probe.eager(9);
    is("it is FIRST", first.law(0, 0, 99, 1).x.can(1), 0);
    is("one more", first.x.can(2), 1);
    is("the last PLACE", first.law(0, 0, 99, 7).x.can(8), 1);
    is("the last PLACE is FIRST", first.law(0, 0, 99, 8).x.can(8), 0);
    is("FIRST is behind all", first.law(0, 0, 99, 9).x.open(), 0);
    is("FIRST is 0", first.law(0, 0, 99, 0).x.can(1), 1);
  }

  private static void paid() {
    says(0, "PRICE goes to the seller (what is above 999 is lost), FEE is paid, too, and lost.");
    int[][] sellers = {{993, 998}, {994, 999}, {995, 999}, {999, 999}};
    for (int[] s : sellers) {
      Probe p = pair("5", "9", s[0], 50).law(0, 3, 99, 0);
      is("sell(1) of one with " + s[0], p.x.sell(1), 5);
      is("the seller's purse, of " + s[0], p.x.of(0, 0), s[1]);
      is("the buyer's purse", p.x.of(1, 0), 50 - 5 - 3);
      is("all purses", p.x.count(4), s[1] + 42);
    }
    Probe all = pair("5", "9", 0, 8).law(0, 3, 99, 0);
    is("all that the buyer has", all.x.sell(1), 5);
    is("nothing is left", all.x.of(1, 0), 0);
  }

  private static void laws() {
    says(0, "THE LAW: what 0: sort 0 .. 2 (at first 0), 1: FEE 0 .. 99 (0), 2: MOST 0 .. 99 (99), 3: FIRST 0 .. 9 (0).");
    int[] most = {2, 99, 99, 9};
    int[] first = {0, 0, 99, 0};
    for (int what = 0; what < 4; what++) {
      Probe p = new Probe();
      is("at first, what " + what, p.x.law(what, 0), first[what]);
      is("the most, what " + what, p.x.law(what, most[what]), 0);
      is("above it, what " + what, p.x.law(what, most[what] + 1), -1);
      is("below 0, what " + what, p.x.law(what, -1), -1);
      is("it stays, what " + what, p.x.law(what, 0), most[what]);
    }
  }

  private static void draws() {
    says(0, "A DRAW of n: R = R times 1103515245 + 12345 (as ints; R at first 1), (R without sign, by 65536) % n.");
    long[] lines = {11023, 10213, 10132};
    int belowZero = 0;
    for (int seed : new int[] {1, 2, 3, 4, 5, 6, 7, 8, -1, -2, Integer.MAX_VALUE, Integer.MIN_VALUE, 0}) {
      Probe p = Probe.eager(4);
      if (seed != 1) p.x.seed(seed);
      long next = Math.floorMod(seed * 1103515245L + 12345L, 1L << 32);
      belowZero += (int) next < 0 ? 1 : 0;
      is("one sale by R " + seed, p.x.run(2, 1), 1);
      is("line() by R " + seed, p.x.line(), lines[(int) (next / 65536 % 3)]);
      is("R behind " + seed, p.x.seed(0), (int) next);
    }
    is("some R are below 0 as ints", belowZero > 2, true);
    Probe one = pair("0", "1", 9, 9);
    one.x.run(2, 200);
    is("a DRAW of one is one, too", one.x.seed(0), 1103515245 + 12345);
  }

  private static void lineAsItCame() {
    says(0, "THE LINE AS IT CAME: as it was behind the last of THE TOWN, comes() or serve(); PURSES too.");
    Probe p = Probe.three();
    tells(p, "behind town()", p.x.gained(1), 0, 0, 0);
    p.x.sell(1);
    tells(p, "a sale is not it", p.x.gained(1), 9, 10, -1);
    p.x.undo();
    p.x.sheet(2, 3, 100, 0);
    tells(p, "nor is a sheet", p.x.gained(1), 50, 0, 50);
    p.people("1,1,2");
    tells(p, "behind one more", p.x.gained(1), 0, 0, 0);
    p.x.sell(1);
    p.x.serve(1);
    tells(p, "behind serve()", p.x.gained(0), 0, 0, 0);
    p.x.sheet(2, 4, 7, 0);
    p.x.comes(1);
    tells(p, "behind comes()", p.x.gained(0), 0, 0, 0);
    tells(p, "who came", p.x.gained(1), 0, 0, 0);
    p.x.sheet(2, 4, 5, 0);
    p.x.comes(1);
    tells(p, "not behind one that is refused", p.x.gained(0), -2, 0, -2);
    p.x.serve(10);
    tells(p, "not behind one that is refused", p.x.gained(0), -2, 0, -2);
    p.town("1,1,1;x");
    tells(p, "not behind one that is refused", p.x.gained(0), -2, 0, -2);
  }

  private static void codesAndRows() {
    says(0, "CODE of a LINE: its numbers as digits, the first one the greatest, with a 1 ahead (1: nobody).");
    is("nobody", new Probe().x.line(), 1);
    Probe p = Probe.eager(9);
    is("nine", p.x.line(), 1012345678L);
    p.x.serve(8);
    is("the last", p.x.line(), 18);
    p.x.comes(0);
    is("two", p.x.line(), 180);
    p.x.serve(1);
    is("0 alone", p.x.line(), 10);
    says(0, "ROW: numbers told last by a call that says so.");
    Probe row = Probe.three();
    is("none at first", row.x.count(5), 0);
    row.x.can(1);
    tells(row, "calls that say none", row.x.sell(1) + row.x.open() + row.x.undo() + row.x.turned(1, 0) + row.x.law(0, 0)
        + row.x.slow(0, 2) + row.x.comes(0) + row.x.worth(0, 0), 1 + 4 + 0 + 0 + 0 + 2 - 1 + 0, 10, 1, 1);
    tells(row, "a shorter one", row.x.back(2), 2, 0);
    tells(row, "a longer one", row.x.sum(), -25, 0, -10, -15);
    says(0, "Rows of numbers are compared from the first on.");
    Probe f = Probe.eager(3);
    for (int i = 1; i < 3; i++) for (int j = 0; j < i; j++) f.x.friend(i, j, true);
    tells(f, "1 2 1, not 2 1 2", f.x.cheapest(1210), 0, 1, 2, 1);
    says(0, "Refused calls answer NONE, or false, and change nothing but THE TEXT, which a call that reads it empties.");
    is("one that reads it", busy().text("x").x.town(), -1);
    refusedText(Edges::busy, "town()", -2, x -> x.town());
    refusedText(Edges::busy, "rule(4)", -100, x -> x.rule(4));
    refusedText(() -> busy().text("9-p*3("), "rule(3)", -6, x -> x.rule(3));
    refused(Edges::busy, "law(9, 9)", -1, x -> x.law(9, 9));
    refused(Edges::busy, "keep(2)", 0, x -> x.keep(2) ? 1 : 0);
    refused(Edges::busy, "end(6)", 0, x -> x.end(6) ? 1 : 0);
    is("the least that would change is seen", busy().x.count(2), 3);
  }

  private static void tooMany() {
    says(0, "all lines that can come (with PURSES and SALES; by all SALES that CAN BE, in any order; more than 2000: -3).");
    Probe p = pairs(19, 99);
    tells(p, "20 times 100", p.x.lines(), 2000, 4, 1, 118, 118);
    Probe q = pairs(2, 22, 28);
    is("3 times 23 times 29", q.x.lines(), -3);
    Probe r = pairs(2, 21, 28);
    tells(r, "3 times 22 times 29", r.x.lines(), 1914, 8, 1, 51, 51);
    says(0, "all orders of those in THE LINE (PURSES and SALES as they are; at most 7 in it, else -3).");
    Probe seven = new Probe().people("1,1,0;1,1,0;1,1,0;1,1,0;1,1,0;1,1,0;1,1,0");
    tells(seven, "seven", seven.x.rests(), 5040, 10123456, 0);
    seven.people("1,1,0");
    is("eight", seven.x.rests(), -3);
    seven.x.serve(1);
    tells(seven, "seven of eight", seven.x.rests(), 5040, 11234567, 0);
    // By its one sale 1 wants nothing more: as SALES are, both orders are at rest.
    Probe k = new Probe().rules("0", "-p*5*(k<1)").people("9,1,0;9,1,1");
    tells(k, "SALES as they are", k.x.rests(), 1, 110, 0);
    k.x.sell(1);
    tells(k, "SALES as they are", k.x.rests(), 2, 101, 0);
    // 0 has nothing to buy with, 1 has.
    Probe purses = new Probe().rules("-p*9", "-p*8").people("7,1,0;9,1,1");
    tells(purses, "PURSES as they are", purses.x.rests(), 2, 101, -8);
    purses.x.sheet(2, 2, 8, 0);
    tells(purses, "PURSES as they are", purses.x.rests(), 1, 101, -8);
  }
}
