/** Promises 1 to 12: the town. */
public final class TownTest {
  public static void main(String[] args) {
    newObject();
    text();
    town();
    townWrong();
    townLong();
    townAnySign();
    rule();
    ruleWrong();
    ruleAnySign();
    ruleValues();
    of();
    law();
    sheet();
    friend();
    slow();
    comes();
    serve();
    Probe.finish(1, 12);
  }

  private static void newObject() {
    Probe p = new Probe();
    for (int what = 0; what < 7; what++) p.due(1, "count(" + what + ")", p.x.count(what), 0);
    p.due(1, "line()", p.x.line(), 1);
    p.due(1, "seed(5)", p.x.seed(5), 1);
    p.due(1, "law(0, 0)", p.x.law(0, 0), 0);
    p.due(1, "law(1, 0)", p.x.law(1, 0), 0);
    p.due(1, "law(2, 0)", p.x.law(2, 0), 99);
    p.due(1, "law(3, 0)", p.x.law(3, 0), 0);
    p.due(1, "NONE", SoldToBehind.NONE, -1);
    p.none(1, "row(0)", () -> p.x.row(0));
  }

  private static void text() {
    Probe p = new Probe();
    for (int i = 1; i <= 20; i++) p.due(2, "sign()", p.x.sign(0x30303030), 4 * i);
    p.due(2, "sign() beyond 80", p.x.sign(0x30303030), -1);
    p.due(2, "count(6)", p.x.count(6), 80);
    p.due(3, "end(81)", p.x.end(81), false);
    p.due(3, "end(-1)", p.x.end(-1), false);
    p.due(3, "end(80) with 80", p.x.end(80), true);
    p.due(3, "end(77)", p.x.end(77), true);
    p.due(3, "count(6)", p.x.count(6), 77);
    p.due(2, "sign() with 77", p.x.sign(0), -1);
    p.due(3, "end(76)", p.x.end(76), true);
    p.due(2, "sign() with 76", p.x.sign(0), 80);
    p.due(3, "end(0)", p.x.end(0), true);
    p.due(3, "end(0) with none", p.x.end(0), true);
    // The highest byte comes first: '5', ',', '1', ','.
    p.due(2, "sign()", p.x.sign(0x352C312C), 4);
    p.due(2, "sign()", p.x.sign(0x30FFFFFF), 8);
    p.due(3, "end(5)", p.x.end(5), true);
    p.due(2, "town()", p.x.town(), 1);
    p.due(2, "of(0, 0)", p.x.of(0, 0), 5);
    // A byte with its highest bit is a sign as others are, and none that can stand.
    p.due(2, "sign(-1)", p.x.sign(-1), 4);
    p.due(2, "rule(0)", p.x.rule(0), -1);
  }

  private static void town() {
    Probe p = new Probe();
    p.due(4, "town of nothing", p.town(""), 0);
    p.due(4, "town()", p.town("7,2,1;07,9,3!;999,1,0;f0-2;f2-0;f1-0"), 6);
    p.due(4, "count(0)", p.x.count(0), 3);
    p.due(4, "line()", p.x.line(), 1012);
    p.due(4, "purse of 1", p.x.of(1, 0), 7);
    p.due(4, "long of 1", p.x.of(1, 1), 9);
    p.due(4, "rule of 1", p.x.of(1, 2), 3);
    p.due(4, "stubborn 1", p.x.of(1, 3), 1);
    p.due(4, "stubborn 2", p.x.of(2, 3), 0);
    p.due(4, "friends of 0", p.x.of(0, 6), 6);
    p.due(4, "friends of 2", p.x.of(2, 6), 1);
    p.due(4, "count(6)", p.x.count(6), 0);
    p.due(4, "friends of one, told twice", new Probe().people("1,1,1;1,1,1;1,1,1;f0-1;f0-2").x.of(0, 6), 6);
    p.due(4, "more of the town", p.town("f1-2;5,5,2"), 2);
    p.due(4, "line()", p.x.line(), 10123);
    p.due(4, "friends of 1", p.x.of(1, 6), 5);
    // Those who were served come back only by comes(); who is told comes behind what there is.
    p.x.serve(4);
    p.due(4, "town()", p.town("1,1,1"), 1);
    p.due(4, "line()", p.x.line(), 14);
  }

  private static void townWrong() {
    String[][] wrong = {
      {"x", "0"}, {";", "0"}, {"!", "0"}, {"1", "1"}, {"12", "2"}, {"123", "3"}, {"1234,1,1", "3"}, {"1,", "2"},
      {",1,1", "0"}, {"1,0,1", "2"}, {"1,x,1", "2"}, {"1,1", "3"}, {"1,11,1", "3"}, {"1,1,", "4"}, {"1,1,4", "4"},
      {"1,1,9", "4"}, {"1,1,11", "5"}, {"1,1,1;", "6"}, {"1,1,1!!", "6"}, {"1,1,1! ", "6"}, {"1,1,1!;", "7"},
      {"1,1,1;;", "6"}, {"f", "1"}, {"f0", "1"}, {"1,1,1;f", "7"}, {"1,1,1;f0", "8"}, {"1,1,1;f0-", "9"},
      {"1,1,1;f0-0", "9"}, {"1,1,1;f0-1", "9"}, {"1,1,1;f1-0", "7"}, {"f0-1;1,1,1;1,1,1", "1"},
      {"1,1,1;f0+", "8"}, {"1,1,1;1,1,1;f0-1!", "16"}, {"1,1,1;1,1,1;f0-1;", "17"}, {"1,1,1;1,1,1;f01", "14"}, {"-1,1,1", "0"},
    };
    for (String[] w : wrong) {
      Probe p = new Probe();
      p.due(4, "town of " + w[0], p.town(w[0]), -1 - Integer.parseInt(w[1]));
      p.due(4, "count(0) behind " + w[0], p.x.count(0), 0);
      p.due(4, "line() behind " + w[0], p.x.line(), 1);
      p.due(4, "count(6) behind " + w[0], p.x.count(6), 0);
    }
    // Friends told ahead of what can't be don't become friends, nor does a stubborn one come.
    Probe p = new Probe().people("1,1,1;2,1,1");
    p.due(4, "town()", p.town("f0-1;3,3,3!;x"), -13);
    p.due(4, "friends of 0", p.x.of(0, 6), 0);
    p.due(4, "town()", p.town("3,3,3"), 1);
    p.due(4, "stubborn 2", p.x.of(2, 3), 0);
  }

  private static void townLong() {
    Probe p = new Probe();
    String six = "111,1,1!;111,1,1!;111,1,1!;111,1,1!;111,1,1!;111,1,1!;";
    // 54 signs; with 22 more there are 76.
    p.due(4, "76 signs", p.town(six + "111,1,1!;111,1,1;1,1,1"), 9);
    Probe q = new Probe();
    p.due(4, "77 signs", q.town(six + "111,1,1!;111,1,1;1,1,1!"), -77);
    p.due(4, "count(0)", q.x.count(0), 0);
    p.due(4, "77 signs that could go on", q.town(six + "111,1,1!;111,1,1;11,1,1"), -77);
    p.due(4, "76 signs that end too early", q.town(six + "111,1,1!;111,1,1;11,1,"), -77);
    p.due(4, "77 signs, one wrong at 75", q.town(six + "111,1,1!;111,1,1;1,1,9!"), -76);
    p.due(4, "77 signs, the last can't be", q.town(six + "111,1,1!;111,1,1;1,1,1x"), -77);
    p.due(4, "one more than 9", p.town("1,1,1"), -1);
    p.due(4, "one more than 9 behind friends", p.town("f0-1;1,1,1"), -6);
    p.due(4, "friends of 0", p.x.of(0, 6), 0);
    p.due(4, "friends with 8", p.town("f0-8"), 1);
    p.due(4, "friends with 9", p.town("f0-9"), -4);
  }

  /** Behind each head all 256 signs: those told can stand there, whatever comes then; the others can't. */
  private static void townAnySign() {
    String[][] heads = {
      {"", "0123456789f"}, {"1", "0123456789,"}, {"12", "0123456789,"}, {"123", ","}, {"1,", "123456789"}, {"1,2", ","},
      {"1,2,", "0123"}, {"1,2,3", "!;"}, {"1,2,3!", ";"}, {"1,2,3;", "0123456789f"}, {"1,2,3!;", "0123456789f"},
      {"1,2,3;f", "0"}, {"1,2,3;f0", "-"}, {"1,2,3;f0-", ""}, {"1,2,3;1,2,3;f", "01"}, {"1,2,3;1,2,3;f1-", "0"},
      {"1,2,3;1,2,3;f1-0", ";"}, {"1,2,3;1,2,3;f1-0;", "0123456789f"},
    };
    for (String[] h : heads) {
      for (char c = 0; c < 256; c++) {
        boolean stands = h[1].indexOf(c) >= 0;
        Probe p = new Probe();
        // Behind a sign that stands, one that never can tells that it was read.
        p.due(4, "town of " + h[0] + " and the sign " + (int) c, p.town(h[0] + c + (char) 255), -1 - h[0].length() - (stands ? 1 : 0));
        p.due(4, "count(0)", p.x.count(0), 0);
      }
    }
  }

  private static void rule() {
    Probe p = new Probe();
    p.due(5, "rule(0)", p.rule(0, "t"), 0);
    p.due(5, "rule(3)", p.rule(3, "0"), 0);
    p.due(5, "count(3)", p.x.count(3), 9);
    p.due(5, "rule(0) of nothing", p.rule(0, ""), 0);
    p.due(5, "count(3)", p.x.count(3), 8);
    p.due(5, "rule(4)", p.rule(4, "t"), -100);
    p.due(5, "count(6)", p.x.count(6), 0);
    p.due(5, "rule(-1) of a wrong one", p.rule(-1, "x"), -100);
    p.due(5, "rule(4) of nothing", p.rule(4, ""), -100);
    p.people("100,1,3");
    p.due(5, "a wrong one", p.rule(3, "9x"), -2);
    p.due(5, "count(6)", p.x.count(6), 0);
    p.due(5, "the old one stays", p.x.worth(0, 0), 0);
    p.due(5, "count(3)", p.x.count(3), 8);
    p.due(5, "a new one", p.rule(3, "9"), 0);
    p.due(5, "worth", p.x.worth(0, 0), 9);
    p.due(5, "none", p.rule(3, ""), 0);
    p.due(5, "worth", p.x.worth(0, 0), 0);
  }

  private static void ruleWrong() {
    String forty = "1+1+1+1+1+1+1+1+1+1+1+1+1+1+1+1+1+1+1+10";
    String[][] wrong = {
      {"x", "0"}, {"+t", "0"}, {"t+", "2"}, {"t+*", "2"}, {"t<n>p", "3"}, {"t=n=p", "3"}, {"(t<n)<p<n", "7"}, {"(t<n<p)", "4"}, {"t<(n<1)<p", "7"},
      {"(", "1"}, {"()", "1"}, {")", "0"}, {"t)", "1"}, {"(t", "2"}, {"(t))", "3"}, {"(((((t", "4"}, {"((((t)))", "8"},
      {"((((t))))((", "9"}, {"1000", "3"}, {"12t", "2"}, {"t1", "1"}, {"tt", "1"}, {"(t)1", "3"}, {"(t)(", "3"}, {"1 ", "1"}, {"-", "1"},
      {"--", "2"}, {"1-", "2"}, {"1--", "3"}, {"t*/", "2"}, {"1(", "1"}, {"T", "0"}, {"a", "0"}, {"0-1234", "5"},
      {forty + "0", "40"}, {forty + "x", "40"}, {forty.substring(0, 39) + "++", "40"},
      {forty.substring(0, 39) + "+", "40"}, {"(" + forty.substring(0, 39), "40"}, {forty.substring(0, 38) + "x+1", "38"},
    };
    for (String[] w : wrong) {
      Probe p = new Probe();
      p.due(5, "rule of " + w[0], p.rule(1, w[0]), -1 - Integer.parseInt(w[1]));
      p.due(5, "count(3) behind " + w[0], p.x.count(3), 0);
    }
    Probe p = new Probe();
    p.due(5, "40 signs", p.rule(0, forty), 0);
    p.people("1,1,0");
    p.due(5, "40 signs", p.x.worth(0, 0), 29);
    p.due(5, "40 signs", p.rule(0, "----------------------------------------".substring(1) + "1"), 0);
    p.due(5, "39 times less", p.x.worth(0, 0), -1);
    p.due(5, "( ) in one another, and again", p.rule(0, "((((1))))+((((2))))"), 0);
    p.due(5, "( )", p.x.worth(0, 0), 3);
  }

  /** As townAnySign(), of a RULE. */
  private static void ruleAnySign() {
    String things = "tpnliqk0123456789-(";
    String binding = "<>=+-*/";
    String[][] heads = {
      {"", things}, {"-", things}, {"--", things}, {"(", things}, {"t+", things}, {"t-", things}, {"t*", things}, {"t/", things},
      {"t<", things}, {"t>", things}, {"t=", things}, {"(((", things}, {"((((", things.substring(0, 18)}, {"((((t))))-", things},
      {"t", binding}, {"p", binding}, {"n", binding}, {"l", binding}, {"i", binding}, {"q", binding}, {"k", binding}, {"-t", binding},
      {"1", binding + "0123456789"}, {"12", binding + "0123456789"}, {"123", binding}, {"(1", binding + "0123456789)"},
      {"(123", binding + ")"}, {"(t", binding + ")"}, {"(t)", binding}, {"(1)", binding}, {"(12)", binding}, {"((1)", binding + ")"}, {"((t)", binding + ")"}, {"((((t", binding + ")"},
      {"t<p", "+-*/"}, {"t=1", "+-*/0123456789"}, {"t>p+n", "+-*/"}, {"t<(p", binding + ")"}, {"t<(p=n", "+-*/)"}, {"(t<p)", binding},
      {"(t<p", "+-*/)"}, {"(t<p)=n", "+-*/"}, {"(t<p)+(n", binding + ")"},
    };
    for (String[] h : heads) {
      for (char c = 0; c < 256; c++) {
        boolean stands = h[1].indexOf(c) >= 0;
        Probe p = new Probe();
        p.due(5, "rule of " + h[0] + " and the sign " + (int) c, p.rule(0, h[0] + c + (char) 255), -1 - h[0].length() - (stands ? 1 : 0));
        p.due(5, "count(3)", p.x.count(3), 0);
      }
    }
    // The signs of issue 9, and one that is none as the last of 40 and behind them.
    Probe p = new Probe();
    p.due(5, "l~", p.rule(0, "l~" + (char) 250 + (char) 96), -2);
    p.due(5, "l~t", p.rule(0, "l~t"), -2);
    String head = "1+1+1+1+1+1+1+1+1+1+1+1+1+1+1+1+1+1+1+1";
    p.due(5, "~ at 39", p.rule(0, head + "~"), -40);
    p.due(5, "~ at 40", p.rule(0, head + "1~"), -41);
  }

  private static void ruleValues() {
    Object[][] values = {
      {"1+2*3", 7}, {"(1+2)*3", 9}, {"10-3-2", 5}, {"7/2", 3}, {"-7/2", -3}, {"7/-2", -3}, {"7/0", 0}, {"100/10/5", 2},
      {"2*3/4", 1}, {"3/4*2", 0}, {"1<2", 1}, {"2<1", 0}, {"1<1", 0}, {"2>1", 1}, {"1>1", 0}, {"1=1", 1}, {"1=2", 0}, {"1+1=2", 1},
      {"2<1+5", 1}, {"(1<2)<3", 1}, {"(3>2)=(2>1)", 1}, {"5+(1<2)", 6}, {"--3", 3}, {"---3", -3}, {"2--3", 5}, {"2*-3", -6},
      {"2+-3", -1}, {"-(2+3)", -5}, {"-2*-3", 6}, {"007", 7}, {"0-0", 0}, {"999*11", 9999}, {"0-999*11", -9999}, {"99*99", 9801},
      {"999*999*999*999", -9999}, {"999*999*999", 9999}, {"999*999*999*4", -9999}, {"(999*999<0)*5+1", 1},
      // Of one of PEOPLE: number 1 of 3, place 1, 2 ahead of 4 minutes in all (at place 2), its own 3, 77 coins.
      {"t", 2}, {"p", 1}, {"n", 3}, {"l", 3}, {"i", 1}, {"q", 77}, {"k", 0}, {"q/l-t*p", 23}, {"-t-p", -3},
      {"1-2<0", 1}, {"5-5*5", -20}, {"5-5-5*0", 0}, {"-5+5", 0}, {"-5-5", -10}, {"6/2*3", 9}, {"1-(2-(3-(4-5)))", 3},
    };
    Probe p = new Probe().people("50,2,0;77,3,2;50,4,0");
    for (Object[] v : values) {
      p.due(5, "rule of " + v[0], p.rule(2, (String) v[0]), 0);
      p.due(5, "worth by " + v[0], p.x.worth(1, 1), (Integer) v[1]);
    }
    p.rules("0", "0", "t*10+p");
    p.due(13, "at the end", p.x.worth(1, 2), 62);
    p.due(13, "at the front", p.x.worth(1, 0), 0);
  }

  private static void of() {
    Probe p = Probe.three();
    int[][] all = {{10, 2, 0, 0, 0, 0, 0}, {50, 1, 1, 0, 1, 0, 0}, {30, 3, 1, 1, 2, 0, 0}};
    for (int person = 0; person < 3; person++) {
      for (int what = 0; what < 7; what++) {
        p.due(6, "of(" + person + ", " + what + ")", p.x.of(person, what), all[person][what]);
      }
    }
    p.none(6, "of(3, 0)", () -> p.x.of(3, 0));
    p.none(6, "of(-1, 0)", () -> p.x.of(-1, 0));
    p.none(6, "of(0, 7)", () -> p.x.of(0, 7));
    p.none(6, "of(0, -1)", () -> p.x.of(0, -1));
    p.x.sell(1);
    p.due(6, "place of 0", p.x.of(0, 4), 1);
    p.due(6, "sales of 0", p.x.of(0, 5), 1);
    p.x.serve(1);
    p.due(6, "place of 1", p.x.of(1, 4), -1);
    p.due(6, "sales of 1", p.x.of(1, 5), 1);
  }

  private static void law() {
    Probe p = new Probe();
    int[] most = {2, 99, 99, 9};
    int[] first = {0, 0, 99, 0};
    for (int what = 0; what < 4; what++) {
      p.due(7, "law(" + what + ", most)", p.x.law(what, most[what]), first[what]);
      p.due(7, "law(" + what + ", above)", p.x.law(what, most[what] + 1), -1);
      p.due(7, "law(" + what + ", -1)", p.x.law(what, -1), -1);
      p.due(7, "law(" + what + ", 0)", p.x.law(what, 0), most[what]);
      p.due(7, "law(" + what + ", 0)", p.x.law(what, 0), 0);
    }
    p.due(7, "law(4, 0)", p.x.law(4, 0), -1);
    p.due(7, "law(-1, 0)", p.x.law(-1, 0), -1);
  }

  private static void sheet() {
    Probe p = Probe.three();
    p.due(8, "bytes", p.x.sheet(0, 3, 300, -40), 48);
    p.due(8, "bytes", p.x.of(0, 0), 44);
    p.due(8, "bytes", p.x.of(2, 0), 0);
    p.due(8, "shorts", p.x.sheet(1, 3, 65536 + 7, 32768), 14);
    p.due(8, "shorts", p.x.of(1, 0), 0);
    p.due(8, "ints", p.x.sheet(2, 2, 10, 500), 520);
    p.due(8, "ints, above 999", p.x.sheet(2, 3, 998, 1), 998 + 999 + 999);
    p.due(8, "ints that wrap", p.x.sheet(2, 3, Integer.MAX_VALUE, 5), 999);
    p.due(8, "more entries than people", p.x.sheet(2, 9, 1, 1), 6);
    p.due(8, "count(4)", p.x.count(4), 6);
    p.due(8, "n below 0", p.x.sheet(0, -1, 5, 5), -2);
    p.due(8, "n above 9", p.x.sheet(2, 10, 5, 5), -1);
    p.due(8, "kind 4", p.x.sheet(4, 1, 5, 5), -1);
    p.due(8, "kind -1", p.x.sheet(-1, -1, 5, 5), -1);
    p.due(8, "missing with n above 9", p.x.sheet(3, 10, 5, 5), -1);
    p.due(8, "count(4)", p.x.count(4), 6);
    p.due(8, "missing with n below 0", p.x.sheet(3, -1, 5, 5), -3);
    p.due(8, "count(4)", p.x.count(4), 0);
    p.due(8, "no entries", p.x.sheet(2, 0, 5, 5), 0);
    // The sheet forgets no sales; undone, they bring the purses of all back as they were.
    Probe q = Probe.three();
    q.x.sell(1);
    q.x.sheet(3, 0, 0, 0);
    q.due(8, "count(2)", q.x.count(2), 1);
    q.due(16, "undo()", q.x.undo(), 0);
    q.due(16, "count(4)", q.x.count(4), 90);
  }

  private static void friend() {
    Probe p = Probe.three();
    p.due(9, "friend(0, 2)", p.x.friend(0, 2, true), true);
    p.due(9, "of(2, 6)", p.x.of(2, 6), 1);
    p.due(9, "friend(0, 2) again", p.x.friend(2, 0, true), true);
    p.due(9, "of(0, 6)", p.x.of(0, 6), 4);
    p.due(9, "friend(2, 0) no more", p.x.friend(2, 0, false), true);
    p.due(9, "of(0, 6)", p.x.of(0, 6), 0);
    p.due(9, "of(2, 6)", p.x.of(2, 6), 0);
    p.due(9, "friend(1, 1)", p.x.friend(1, 1, true), false);
    p.due(9, "friend(0, 3)", p.x.friend(0, 3, true), false);
    p.due(9, "friend(-1, 0)", p.x.friend(-1, 0, true), false);
    p.x.friend(0, 1, true);
    p.due(9, "the price between friends", p.x.can(1), 1, 10, 1, 0);
    p.x.serve(3);
    p.due(9, "those not in the line", p.x.friend(0, 1, false), true);
  }

  private static void slow() {
    Probe p = Probe.three();
    p.due(10, "slow(0, 9)", p.x.slow(0, 9), 2);
    p.due(10, "worth", p.x.worth(1, 1), -45);
    p.due(10, "slow(0, 1)", p.x.slow(0, 1), 9);
    p.due(10, "slow(0, 0)", p.x.slow(0, 0), -1);
    p.due(10, "slow(0, 10)", p.x.slow(0, 10), -1);
    p.due(10, "slow(3, 1)", p.x.slow(3, 1), -1);
    p.due(10, "slow(-1, 1)", p.x.slow(-1, 1), -1);
    p.due(10, "of(0, 1)", p.x.of(0, 1), 1);
  }

  private static void comes() {
    Probe p = Probe.three();
    p.due(11, "comes(0) who is there", p.x.comes(0), -1);
    p.x.sell(1);
    p.due(11, "refused, it forgets nothing", p.x.count(2), 1);
    p.x.serve(2);
    p.due(11, "comes(1)", p.x.comes(1), 1);
    p.due(11, "comes(0)", p.x.comes(0), 2);
    p.due(11, "line()", p.x.line(), 1210);
    p.due(11, "comes(3)", p.x.comes(3), -1);
    p.due(11, "comes(-1)", p.x.comes(-1), -1);
    // As it came is as it was behind the last who came.
    p.due(11, "gained(1)", p.x.gained(1), 0, 0, 0);
  }

  private static void serve() {
    // Worth n*100+p*10+t of place 0, with 3, then 2, then 1 in the line.
    Probe p = new Probe().rules("n*100+p*10+t").people("1,4,0;1,5,0;1,6,0");
    p.due(12, "serve(-1)", p.x.serve(-1), -1);
    p.due(12, "serve(10)", p.x.serve(10), -1);
    p.due(12, "line()", p.x.line(), 1012);
    p.due(12, "serve(2)", p.x.serve(2), 2, 500, 9);
    p.due(12, "line()", p.x.line(), 12);
    p.due(12, "serve(0)", p.x.serve(0), 0, 0, 0);
    p.due(12, "serve(9)", p.x.serve(9), 1, 100, 6);
    p.due(12, "serve(9) of nobody", p.x.serve(9), 0, 0, 0);
    p.due(12, "count(0)", p.x.count(0), 3);
    Probe q = Probe.three();
    q.x.sell(1);
    q.due(12, "serve(0)", q.x.serve(0), 0);
    q.due(12, "sales are forgotten", q.x.count(2), 0);
    q.due(12, "gained(1) against the line now", q.x.gained(1), 0, 0, 0);
  }
}
