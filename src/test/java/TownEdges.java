/** Promises 1 to 12: the town. */
final class TownEdges extends Edges {
  private static final int LEAST = Integer.MIN_VALUE;
  private static final int GREATEST = Integer.MAX_VALUE;
  /** 63 signs, seven of PEOPLE and a ; behind each. */
  private static final String SEVEN = "111,1,1!;".repeat(7);
  /** 38 signs, behind which an EXPRESSION goes on. */
  private static final String SUM = "1+".repeat(19);

  static void all() {
    newObject();
    sign();
    end();
    town();
    townTooLong();
    townRefused();
    rule();
    ruleTooLong();
    of();
    law();
    sheet();
    sheetRefused();
    friend();
    slow();
    comes();
    serve();
  }

  private static void newObject() {
    says(1, "Nobody.");
    Probe p = new Probe();
    for (int what = 0; what < 7; what++) is("count(" + what + ")", p.x.count(what), 0);
    is("line()", p.x.line(), 1);
    throwsNone("of(0, 0)", () -> p.x.of(0, 0));
    throwsNone("worth(0, 0)", () -> p.x.worth(0, 0));
    throwsNone("gained(0)", () -> p.x.gained(0));
    throwsNone("row(0)", () -> p.x.row(0));
    is("comes(0)", p.x.comes(0), -1);
    is("stand(0)", p.x.stand(0), -1);
    is("undo()", p.x.undo(), -1);
    is("again(0)", p.x.again(0), false);
    is("again(1)", p.x.again(1), false);
  }

  private static void sign() {
    says(2, "Four signs come behind THE TEXT, of v the highest byte first:");
    Probe p = new Probe();
    p.x.sign('9' << 24 | '8' << 16 | '7' << 8 | ',');
    p.x.sign('6' << 24 | ',' << 16 | '3' << 8 | '!');
    is("town() of 987,6,3!", p.x.town(), 1);
    is("the first three", p.x.of(0, 0), 987);
    is("the sixth", p.x.of(0, 1), 6);
    p.x.sign('1' << 24 | 0x80 << 16 | 0xff << 8);
    is("a sign above 127 is the second", p.x.town(), -2);
    p.x.sign(-1);
    is("the first of -1", p.x.town(), -1);
    p.x.sign(0);
    is("the first of 0", p.x.town(), -1);
    says(2, "how many it has.");
    is("four", p.x.sign(0), 4);
    is("eight", p.x.sign(LEAST), 8);
    p.x.end(5);
    is("nine", p.x.sign(GREATEST), 9);
    says(2, "Refused: there would be more than 80.");
    is("80", p.text("x".repeat(76)).x.sign(0), 80);
    for (int has = 77; has <= 80; has++) {
      String full = "1".repeat(has);
      refused(() -> busy().text(full), "sign() behind " + has, -1, x -> x.sign(0x2b2b2b2b));
      is("they stay", p.text(full).x.count(6), has);
    }
  }

  private static void end() {
    says(3, "THE TEXT has its first n signs alone: true;");
    Probe p = new Probe().text("12,3,1!x");
    is("all of them", p.x.end(8), true);
    is("all of them", p.x.count(6), 8);
    is("but one", p.x.end(7), true);
    is("the first ones", p.x.town(), 1);
    is("the first ones", p.x.of(0, 0), 12);
    is("none of none", p.x.end(0), true);
    p.text("12,3,1!x");
    is("none of eight", p.x.end(0), true);
    is("it is empty", p.x.count(6), 0);
    is("80", p.text("1".repeat(80)).x.end(80), true);
    says(3, "false if it has not so many,");
    refused(Edges::busy, "end(6) of five", 0, x -> x.end(6) ? 1 : 0);
    refused(Edges::busy, "end() of very many", 0, x -> x.end(GREATEST) ? 1 : 0);
    refused(Probe::new, "end(1) of none", 0, x -> x.end(1) ? 1 : 0);
    is("81", p.text("1".repeat(80)).x.end(81), false);
    says(3, "or n is below 0.");
    refused(Edges::busy, "end(-1)", 0, x -> x.end(-1) ? 1 : 0);
    refused(Edges::busy, "end() of the least", 0, x -> x.end(LEAST) ? 1 : 0);
    refused(Probe::new, "end(-1) of none", 0, x -> x.end(-1) ? 1 : 0);
  }

  private static void town() {
    says(4, "THE TEXT tells of THE TOWN (an empty one: nothing): how many LINES.");
    is("none", new Probe().town(""), 0);
    is("none, of some", busy().town(""), 0);
    Probe nothing = busy();
    long gained = nothing.x.gained(2);
    nothing.town("");
    is("nothing is told by it: THE LINE AS IT CAME stays", nothing.x.gained(2), gained);
    is("it is another one", gained != 0, true);
    is("nobody comes by it", nothing.x.count(0), 6);
    is("one", new Probe().town("1,1,1"), 1);
    is("FRIENDS count", new Probe().town("1,1,1;1,1,1;f0-1;f1-0"), 4);
    is("nine", new Probe().town("1,1,1" + ";1,1,1".repeat(8)), 9);
    Probe friends = Probe.eager(9);
    is("15 of FRIENDS", friends.town("f0-1" + ";f0-1".repeat(14)), 15);
    says(4, "-1 - p: the sign at p can't stand there");
    String[][] wrong = {
      {"x", "0"}, {"1x", "1"}, {"1,x", "2"}, {"1,1x", "3"}, {"1,1,x", "4"}, {"1,1,1x", "5"}, {"1,1,1!x", "6"}, {"1,1,1;x", "6"},
      {"1,1,1;fx", "7"}, {"1,1,1;f0x", "8"}, {"1,1,1;f0-x", "9"}, {"1,1,1;1,1,1;f0-1x", "16"}, {"1,1,1;1,1,1;f0-1!", "16"},
    };
    for (String[] w : wrong) is(w[0], new Probe().town(w[0]), -1 - Integer.parseInt(w[1]));
    says(4, "(its end, if it ends too early;");
    for (String s : new String[] {"1", "12", "123", "1,", "1,1", "1,1,", "1,1,1;", "1,1,1!;", "f", "1,1,1;f", "1,1,1;f0", "1,1,1;f0-"}) {
      is(s, new Probe().town(s), -1 - s.length());
    }
    is("76 that end too early", new Probe().town(SEVEN + "111,1,1;1,1,"), -1 - 75);
    is("76 that end too early", new Probe().town(SEVEN + "111,1,1;11,1,"), -1 - 76);
  }

  private static void townTooLong() {
    says(4, "76, if it has more and the first 76 could go on or end;");
    is("76 are not more", new Probe().town(SEVEN + "111,1,1;1,1,1"), 9);
    is("the first 76 could end", new Probe().town(SEVEN + "111,1,1;1,1,1!"), -77);
    is("the first 76 could end, 80 signs", new Probe().town(SEVEN + "111,1,1;1,1,1!xyz"), -77);
    is("the first 76 could go on", new Probe().town(SEVEN + "111,1,1;11,1,1"), -77);
    is("the first 76 could go on behind a ;", new Probe().town(SEVEN + "111,1,1;f0-1;f0-1"), -77);
    is("they could not: at 75", new Probe().town(SEVEN + "111,1,1;1,1,4!"), -76);
    is("they could not: at 0", new Probe().town("x" + SEVEN + "111,1,1;1,1,1"), -1);
    refusedText(() -> busy().text("f1-2;".repeat(15) + "f1"), "77 signs", -77, x -> x.town());
    says(4, "one that is not there, or the same as the first one, a LONG of 0, a RULE above 3: at its digit;");
    Probe p = new Probe().people("1,1,1;1,1,1");
    is("one that is not there", p.town("f2-0"), -2);
    is("another one that is not there", p.town("f0-2"), -4);
    is("one that is told later", p.town("f0-2;1,1,1"), -4);
    is("one that is told ahead", p.town("1,1,1;f0-2"), 2);
    is("the same", p.town("f1-1"), -4);
    is("9 is never there", Probe.eager(9).town("f0-9"), -4);
    is("8 is", Probe.eager(9).town("f0-8"), 1);
    is("a LONG of 0", p.town("1,0,1"), -3);
    is("a LONG of 1 and 9", p.town("1,1,1;1,9,1"), 2);
    is("a RULE of 4", p.town("1,1,4"), -5);
    is("a RULE of 9", p.town("1,1,9"), -5);
    is("a RULE of 3 and 0", p.town("1,1,3;1,1,0"), 2);
    says(4, "the first sign of a LINE of one of PEOPLE for which there is no room).");
    Probe nine = Probe.eager(9);
    is("at once", nine.town("1,1,1"), -1);
    is("behind FRIENDS", nine.town("f0-1;123,4,3!"), -6);
    is("a tenth in one text", new Probe().town("1,1,1" + ";1,1,1".repeat(9)), -1 - 54);
    is("a tenth behind eight", Probe.eager(8).town("1,1,1;2,2,2"), -7);
    nine.x.serve(9);
    is("nobody is in THE LINE, there is no room all the same", nine.town("1,1,1"), -1);
    is("FRIENDS need none", nine.town("f7-8"), 1);
  }

  private static void townRefused() {
    says(4, "Nothing of it comes, if a LINE can't.");
    refusedText(() -> busy().text("1,1,1;2,2,2!;x"), "two come ahead of it", -14, x -> x.town());
    refusedText(() -> busy().text("f1-5;f1-2;f1-1"), "FRIENDS ahead of it", -14, x -> x.town());
    refusedText(() -> busy().text("1,1,1;2,2,2;3,3,3;4,4,4"), "three have room", -19, x -> x.town());
    refusedText(() -> busy().text("f1-5;9,9,"), "it ends too early", -10, x -> x.town());
    Probe p = busy();
    p.text("9,9,3!;x").x.town();
    p.people("8,8,2");
    is("what comes later is told anew", p.x.of(6, 3), 0);
    is("what comes later is told anew", p.x.of(6, 0), 8);
    p.text("f1-2;f1-5;x").x.town();
    p.people("8,8,2;f1-6");
    is("so are FRIENDS", p.x.of(1, 6), 64);
    is("so are FRIENDS", p.x.of(2, 6), 0);
  }

  private static void rule() {
    says(5, "THE TEXT is a RULE (an empty one: none): 0.");
    Probe p = new Probe().people("5,1,0;6,1,3");
    is("RULE 0", p.rule(0, "7"), 0);
    is("RULE 3", p.rule(3, "8"), 0);
    is("by RULE 0", p.x.worth(0, 0), 7);
    is("by RULE 3", p.x.worth(1, 1), 8);
    is("told", p.x.count(3), 9);
    is("an empty one", p.rule(0, ""), 0);
    is("none", p.x.worth(0, 0), 0);
    is("none", p.x.count(3), 8);
    is("0 is one that is told", p.rule(0, "0"), 0);
    is("told", p.x.count(3), 9);
    is("another one", p.rule(0, "t-p"), 0);
    is("THE TEXT is empty", p.x.count(6), 0);
    says(5, "-1 - p: the sign at p can't stand there (its end, if it ends too early;");
    String[][] wrong = {
      {"x", "0"}, {"1x", "1"}, {"1+x", "2"}, {"(x", "1"}, {"(1x", "2"}, {"(1)x", "3"}, {"-x", "1"}, {"1<x", "2"}, {"1<2x", "3"}, {")", "0"},
      {"1)", "1"}, {"(1))", "3"}, {"1<2<3", "3"}, {"(1<2<3)", "4"}, {"1234", "3"}, {"t1", "1"}, {"1t", "1"}, {"(t)t", "3"}, {"(((((", "4"},
      {"(1)2", "3"}, {"(12)3", "4"}, {"((1)2", "4"}, {"((12))3", "6"},
      {"1", "none"}, {"-", "1"}, {"1+", "2"}, {"1*", "2"}, {"1<", "2"}, {"(", "1"}, {"(1", "2"}, {"((1)", "4"}, {"1--", "3"}, {"(((((1)))))", "4"},
    };
    for (String[] w : wrong) is(w[0], new Probe().rule(1, w[0]), w[1].equals("none") ? 0 : -1 - Integer.parseInt(w[1]));
    Probe anew = new Probe().people("1,1,0");
    for (String w : new String[] {"((((", "1<2<", "12x", "----", "(1<2", "9*"}) {
      is(w + " is refused", anew.rule(0, w) < 0, true);
      is("what comes behind " + w + " is read anew", anew.rule(0, "((((1<2))))+5=6"), 0);
      is("what comes behind " + w + " is read anew", anew.x.worth(0, 0), 1);
    }
    is("40 that end too early", new Probe().rule(0, SUM + "1+"), -41);
    is("39 that end too early", new Probe().rule(0, SUM + "("), -40);
    refusedText(() -> busy().text("9-p*3*"), "one that ends too early", -7, x -> x.rule(3));
    refusedText(() -> busy().text("9-p*3x"), "a wrong one", -6, x -> x.rule(0));
  }

  private static void ruleTooLong() {
    says(5, "40, if it has more and the first 40 could go on or end);");
    is("40 are not more", new Probe().rule(0, SUM + "11"), 0);
    is("the first 40 could end", new Probe().rule(0, SUM + "11+1"), -41);
    is("the first 40 could end, 80 signs", new Probe().rule(0, "1+".repeat(40)), -41);
    is("the first 40 could go on", new Probe().rule(0, SUM + "1+1"), -41);
    is("the first 40 could go on", new Probe().rule(0, "(" + SUM + "1)"), -41);
    is("they could not: at 39", new Probe().rule(0, SUM + "1)1"), -40);
    is("they could not: at 0", new Probe().rule(0, "x" + SUM + "11"), -1);
    is("the next one could not", new Probe().rule(0, SUM + "11x"), -41);
    refusedText(() -> busy().text(SUM + "111"), "41 signs", -41, x -> x.rule(3));
    says(5, "-100: no such RULE (asked first).");
    for (int i : new int[] {-1, 4, LEAST, GREATEST}) {
      refusedText(Edges::busy, "rule(" + i + ")", -100, x -> x.rule(i));
      is("rule(" + i + ") of a wrong one", new Probe().rule(i, "x"), -100);
      is("rule(" + i + ") of an empty one", new Probe().rule(i, ""), -100);
      is("rule(" + i + ") of a long one", new Probe().rule(i, "1+".repeat(40)), -100);
    }
  }

  private static void of() {
    says(6, "Of one of PEOPLE, what 0: PURSE, 1: LONG, 2: RULE, 3: 1 if STUBBORN, 4: its PLACE (NONE: not in THE LINE), "
        + "5: SALES it was in, 6: FRIENDS (bits).");
    Probe p = new Probe().rules("0", "0", "0-t", "0-p*9");
    p.people("999,9,2;20,1,3!;f0-1");
    p.x.sell(1);
    int[][] due = {{999, 9, 2, 0, 1, 1, 2}, {20, 1, 3, 1, 0, 1, 1}};
    for (int person = 0; person < 2; person++) {
      for (int what = 0; what < 7; what++) is("of(" + person + ", " + what + ")", p.x.of(person, what), due[person][what]);
    }
    p.x.serve(1);
    is("not in THE LINE", p.x.of(1, 4), -1);
    is("the first", p.x.of(0, 4), 0);
    is("served, it was in as many SALES", p.x.of(1, 5), 1);
    Probe nine = Probe.eager(9);
    for (int i = 0; i < 8; i++) nine.x.friend(8, i, true);
    is("FRIENDS of all others", nine.x.of(8, 6), 255);
    is("the last one a FRIEND", nine.x.of(0, 6), 256);
    is("the last PLACE", nine.x.of(8, 4), 8);
    says(6, "NoSuchElementException: none such, another what.");
    for (int person : new int[] {-1, 6, 9, LEAST, GREATEST}) refused(Edges::busy, "of(" + person + ", 0)", THROWN, x -> x.of(person, 0));
    for (int what : new int[] {-1, 7, LEAST, GREATEST}) refused(Edges::busy, "of(0, " + what + ")", THROWN, x -> x.of(0, what));
    throwsNone("of nobody", () -> new Probe().x.of(0, 0));
    is("the last there is", busy().x.of(5, 0), 50);
  }

  private static void law() {
    says(7, "THE LAW: what becomes v: what it was.");
    Probe p = new Probe();
    is("the last sort", p.x.law(0, 2), 0);
    is("the greatest FEE", p.x.law(1, 99), 0);
    is("no MOST", p.x.law(2, 0), 99);
    is("the greatest FIRST", p.x.law(3, 9), 0);
    is("back", p.x.law(0, 0), 2);
    is("back", p.x.law(1, 0), 99);
    is("back", p.x.law(2, 99), 0);
    is("back", p.x.law(3, 0), 9);
    is("the same again", p.x.law(2, 99), 99);
    says(7, "Refused: others.");
    int[] most = {2, 99, 99, 9};
    for (int what = 0; what < 4; what++) {
      int told = what;
      for (int v : new int[] {-1, most[what] + 1, LEAST, GREATEST}) {
        refused(Edges::busy, "law(" + what + ", " + v + ")", -1, x -> x.law(told, v));
      }
    }
    for (int what : new int[] {-1, 4, LEAST, GREATEST}) refused(Edges::busy, "law(" + what + ", 0)", -1, x -> x.law(what, 0));
  }

  private static long purses(Probe p, int people) {
    long all = 0;
    for (int person = 0; person < people; person++) all = all * 1000 + p.x.of(person, 0);
    return all;
  }

  private static void sheet() {
    says(8, "PURSES of PEOPLE 0, 1, .., as a sheet tells them: bytes (kind 0), shorts (1), ints (2) of n entries f, f + step, ..");
    Probe p = new Probe().people("5,1,0;5,1,0;5,1,0");
    for (int kind = 0; kind < 3; kind++) {
      is("kind " + kind, p.x.sheet(kind, 3, 7, 20), 7 + 27 + 47);
      is("kind " + kind, purses(p, 3), 7027047);
      is("kind " + kind + ", back", p.x.sheet(kind, 3, 40, -20), 60);
      is("kind " + kind + ", back", purses(p, 3), 40020000);
    }
    is("those not in THE LINE too", p.x.serve(2) + p.x.sheet(2, 3, 1, 1), 2 + 6);
    says(8, "(of bytes, shorts the lowest bits, with their sign; put to 0 .. 999),");
    int[][] ones = {
      {0, 127, 127}, {0, 128, 0}, {0, 255, 0}, {0, 256, 0}, {0, 257, 1}, {0, -1, 0}, {0, -128, 0}, {0, -129, 127}, {0, LEAST, 0}, {0, GREATEST, 0},
      {0, 383, 127}, {1, 128, 128}, {1, 999, 999}, {1, 1000, 999}, {1, 32767, 999}, {1, 32768, 0}, {1, 65535, 0}, {1, 65536, 0}, {1, 65537, 1},
      {1, -1, 0}, {1, -32768, 0}, {1, -32769, 999}, {1, -65536 + 77, 77}, {1, LEAST, 0}, {1, GREATEST, 0}, {2, 999, 999}, {2, 1000, 999},
      {2, 32768, 999}, {2, 65536, 999}, {2, -1, 0}, {2, LEAST, 0}, {2, GREATEST, 999}, {2, 0, 0}, {2, 1, 1},
    };
    for (int[] one : ones) {
      is("kind " + one[0] + " of " + one[1], p.x.sheet(one[0], 1, one[1], 0), one[2]);
      is("kind " + one[0] + " of " + one[1], purses(p, 3), one[2] * 1000000L);
    }
    is("ints that wrap", p.x.sheet(2, 3, GREATEST, 1), 999);
    is("ints that wrap", purses(p, 3), 999000000);
    is("ints that wrap back", p.x.sheet(2, 3, LEAST, -1), 999 + 999);
    is("ints that wrap back", purses(p, 3), 999999);
    is("a step that wraps", p.x.sheet(2, 3, 5, LEAST), 5 + 0 + 5);
    is("shorts of ints that wrap", p.x.sheet(1, 3, GREATEST, 6), 0 + 5 + 11);
    says(8, "or a missing one (3):");
    is("missing", p.x.sheet(3, 3, 5, 5), -3);
    says(8, "those behind it have 0:");
    p.x.sheet(2, 3, 5, 1);
    is("one entry", p.x.sheet(2, 1, 9, 9), 9);
    is("two have nothing", purses(p, 3), 9000000);
    p.x.sheet(2, 3, 5, 1);
    is("no entry", p.x.sheet(0, 0, 9, 9), 0);
    is("all have nothing", purses(p, 3), 0);
    is("all but the last", p.x.sheet(1, 2, 9, 1), 19);
    is("all but the last", purses(p, 3), 9010000);
    says(8, "the sum of all.");
    is("more entries than PEOPLE", p.x.sheet(2, 9, 1, 1), 6);
    is("the purses", p.x.count(4), 6);
    is("full ones", Probe.eager(9).x.sheet(2, 9, GREATEST, 0), 9 * 999);
    is("of nobody", new Probe().x.sheet(2, 9, 7, 7), 0);
  }

  private static void sheetRefused() {
    says(8, "-2: n below 0 (of kinds 0 .. 2; nothing changes);");
    for (int kind = 0; kind < 3; kind++) {
      int told = kind;
      refused(Edges::busy, "n of -1, kind " + kind, -2, x -> x.sheet(told, -1, 5, 5));
      refused(Edges::busy, "the least n, kind " + kind, -2, x -> x.sheet(told, LEAST, 5, 5));
    }
    says(8, "-3: missing (all 0).");
    for (int n : new int[] {0, 9, 3, -1, LEAST}) {
      Probe p = busy();
      is("missing, n of " + n, p.x.sheet(3, n, 5, 5), -3);
      is("missing, n of " + n, p.x.count(4), 0);
    }
    says(8, "NONE: another kind, n above 9 (these first).");
    for (int kind : new int[] {-1, 4, LEAST, GREATEST}) {
      for (int n : new int[] {3, -1, 10}) refused(Edges::busy, "kind " + kind + ", n of " + n, -1, x -> x.sheet(kind, n, 5, 5));
    }
    for (int kind = 0; kind < 4; kind++) {
      int told = kind;
      refused(Edges::busy, "n of 10, kind " + kind, -1, x -> x.sheet(told, 10, 5, 5));
      refused(Edges::busy, "the greatest n, kind " + kind, -1, x -> x.sheet(told, GREATEST, 5, 5));
    }
  }

  private static void friend() {
    says(9, "Two unlike ones are FRIENDS, or not: true.");
    Probe p = Probe.eager(9);
    is("they are", p.x.friend(0, 8, true), true);
    is("they are already", p.x.friend(8, 0, true), true);
    is("both ways", p.x.of(0, 6), 256);
    is("both ways", p.x.of(8, 6), 1);
    p.x.friend(8, 7, true);
    is("they are not", p.x.friend(8, 0, false), true);
    is("both ways", p.x.of(0, 6), 0);
    is("both ways, others are", p.x.of(8, 6), 128);
    is("they are not already", p.x.friend(0, 8, false), true);
    is("they are not already", p.x.of(8, 6), 128);
    p.x.serve(9);
    is("not in THE LINE", p.x.friend(1, 2, true), true);
    says(9, "Refused: others.");
    int[][] others = {{1, 1}, {0, 0}, {0, 6}, {6, 0}, {0, -1}, {-1, 0}, {-1, -1}, {6, 6}, {0, LEAST}, {GREATEST, 0}, {0, 32}, {1, 32}, {33, 0}};
    for (int[] o : others) {
      refused(Edges::busy, "friend(" + o[0] + ", " + o[1] + ")", 0, x -> x.friend(o[0], o[1], true) ? 1 : 0);
      refused(Edges::busy, "friend(" + o[0] + ", " + o[1] + ") not", 0, x -> x.friend(o[0], o[1], false) ? 1 : 0);
    }
    is("of nobody", new Probe().x.friend(0, 1, true), false);
  }

  private static void slow() {
    says(10, "LONG of one becomes v: what it was.");
    Probe p = Probe.three();
    is("the greatest", p.x.slow(0, 9), 2);
    is("the least", p.x.slow(0, 1), 9);
    is("it is", p.x.of(0, 1), 1);
    is("who is behind it", p.x.worth(1, 1), -5);
    p.x.serve(1);
    is("not in THE LINE", p.x.slow(0, 5), 1);
    is("the last one", p.x.slow(2, 4), 3);
    says(10, "Refused: others.");
    for (int v : new int[] {0, 10, -1, LEAST, GREATEST}) refused(Edges::busy, "slow(1, " + v + ")", -1, x -> x.slow(1, v));
    for (int person : new int[] {-1, 6, LEAST, GREATEST}) refused(Edges::busy, "slow(" + person + ", 5)", -1, x -> x.slow(person, 5));
    is("of nobody", new Probe().x.slow(0, 5), -1);
  }

  private static void comes() {
    says(11, "One who is not in THE LINE comes to its end: its PLACE.");
    Probe p = Probe.eager(9);
    p.x.serve(9);
    is("to an empty one", p.x.comes(8), 0);
    for (int i = 0; i < 7; i++) is("behind others", p.x.comes(i), i + 1);
    is("the ninth", p.x.comes(7), 8);
    is("line()", p.x.line(), 1801234567);
    says(11, "Refused: others.");
    for (int i = 0; i < 9; i++) is("one who is in it", p.x.comes(i), -1);
    is("line()", p.x.line(), 1801234567);
    for (int person : new int[] {1, 5, 6, -1, LEAST, GREATEST}) refused(Edges::busy, "comes(" + person + ")", -1, x -> x.comes(person));
    is("of nobody", new Probe().x.comes(0), -1);
  }

  private static void serve() {
    says(12, "The first n of THE LINE (0 .. 9; all at most) are served and go: how many;");
    Probe p = Probe.eager(9);
    is("none", p.x.serve(0), 0);
    is("all are there", p.x.line(), 1012345678);
    is("one", p.x.serve(1), 1);
    is("the first is gone", p.x.line(), 112345678);
    is("nine, of eight", p.x.serve(9), 8);
    is("nobody is there", p.x.line(), 1);
    is("nine, of nobody", p.x.serve(9), 0);
    is("they are told of still", p.x.count(0), 9);
    is("nine of nine", Probe.eager(9).x.serve(9), 9);
    says(12, "the ROW: their WORTHS of the PLACES from which they were served (each of PLACE 0, those left being THE LINE then), summed; minutes.");
    Probe w = new Probe().rules("n*100+t*10+p", "999*99", "0-999*99").people("1,9,0;1,8,0;1,7,1;1,6,1;1,5,2");
    tells(w, "none", w.x.serve(0), 0, 0, 0);
    tells(w, "by n, t and p", w.x.serve(2), 2, 500 + 400, 17);
    tells(w, "the most each", w.x.serve(2), 2, 2 * 9999, 13);
    tells(w, "the least, the last one", w.x.serve(9), 1, -9999, 5);
    tells(w, "nobody", w.x.serve(9), 0, 0, 0);
    says(12, "Refused: another n.");
    for (int n : new int[] {-1, 10, LEAST, GREATEST}) refused(Edges::busy, "serve(" + n + ")", -1, x -> x.serve(n));
  }
}
