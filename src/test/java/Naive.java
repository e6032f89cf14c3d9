import java.util.ArrayDeque;
import java.util.ArrayList;
import java.util.Arrays;
import java.util.Collections;
import java.util.HashSet;
import java.util.LinkedHashMap;
import java.util.List;
import java.util.Map;
import java.util.NoSuchElementException;
import java.util.Set;
import java.util.TreeMap;

/** The document once more, as plainly as can be and without any thrift: what random runs are compared with. */
final class Naive {
  static final class State {
    List<Integer> line = new ArrayList<>();
    int[] purse = new int[9];
    int[] k = new int[9];

    State copy() {
      State s = new State();
      s.line = new ArrayList<>(line);
      s.purse = purse.clone();
      s.k = k.clone();
      return s;
    }

    String key() {
      return line + "|" + Arrays.toString(purse) + "|" + Arrays.toString(k);
    }

    long code() {
      StringBuilder b = new StringBuilder("1");
      for (int x : line) b.append(x);
      return Long.parseLong(b.toString());
    }
  }

  static final class Keep {
    State now;
    State came;
    int[] law;
    int r;
    int people;
  }

  /** A line that can come: what it comes from and all there is to ask about it. */
  static final class Node {
    State state;
    int depth;
    long ways;
    long paid;
    List<Integer> row;
    List<Integer> leastRow;
    boolean rest = true;
  }

  StringBuilder text = new StringBuilder();
  List<Long> row = new ArrayList<>();
  int people = 0;
  int[] minutes = new int[9];
  int[] ruleOf = new int[9];
  boolean[] stubborn = new boolean[9];
  boolean[][] friends = new boolean[9][9];
  String[] rules = {"", "", "", ""};
  int[] law = {0, 0, 99, 0};
  int r = 1;
  State now = new State();
  State came = new State();
  ArrayDeque<State> undos = new ArrayDeque<>();
  Keep[] kept = new Keep[2];

  // ---- texts

  int sign(int v) {
    if (text.length() + 4 > 80) return -1;
    for (int i = 3; i >= 0; i--) text.append((char) ((v >> (8 * i)) & 0xff));
    return text.length();
  }

  boolean end(int n) {
    if (n < 0 || n > text.length()) return false;
    text.setLength(n);
    return true;
  }

  static final class Stuck extends RuntimeException {
    final int at;

    Stuck(int at) {
      this.at = at;
    }
  }

  int town() {
    String t = text.toString();
    text.setLength(0);
    if (t.isEmpty()) {
      undos.clear();
      return 0;
    }
    String head = t.length() > 76 ? t.substring(0, 76) : t;
    List<int[]> newOnes = new ArrayList<>();
    List<int[]> newFriends = new ArrayList<>();
    int at = 0;
    int lines = 0;
    try {
      do {
        if (lines > 0) at++;
        at = townLine(head, at, newOnes, newFriends);
        lines++;
        if (at < head.length() && head.charAt(at) != ';') throw new Stuck(at);
      } while (at < head.length());
    } catch (Stuck s) {
      return -1 - s.at;
    }
    if (t.length() > 76) return -77;
    for (int[] one : newOnes) {
      now.purse[people] = one[0];
      minutes[people] = one[1];
      ruleOf[people] = one[2];
      stubborn[people] = one[3] == 1;
      now.line.add(people);
      people++;
    }
    for (int[] two : newFriends) {
      friends[two[0]][two[1]] = true;
      friends[two[1]][two[0]] = true;
    }
    settle();
    return lines;
  }

  private char at(String s, int i) {
    if (i >= s.length()) throw new Stuck(i);
    return s.charAt(i);
  }

  private int digit(String s, int i, int least, int most) {
    char c = at(s, i);
    if (c < '0' || c > '9' || c - '0' < least || c - '0' > most) throw new Stuck(i);
    return c - '0';
  }

  private int townLine(String s, int from, List<int[]> newOnes, List<int[]> newFriends) {
    int p = from;
    int all = people + newOnes.size();
    if (at(s, p) == 'f') {
      int one = digit(s, p + 1, 0, all - 1);
      if (at(s, p + 2) != '-') throw new Stuck(p + 2);
      int other = digit(s, p + 3, 0, all - 1);
      if (one == other) throw new Stuck(p + 3);
      newFriends.add(new int[] {one, other});
      return p + 4;
    }
    int purse = digit(s, p, 0, 9);
    if (all >= 9) throw new Stuck(p);
    p++;
    for (int more = 0; more < 2 && p < s.length() && s.charAt(p) != ','; more++) {
      purse = purse * 10 + digit(s, p, 0, 9);
      p++;
    }
    if (at(s, p) != ',') throw new Stuck(p);
    int l = digit(s, p + 1, 1, 9);
    if (at(s, p + 2) != ',') throw new Stuck(p + 2);
    int rule = digit(s, p + 3, 0, 3);
    p += 4;
    int stub = 0;
    if (p < s.length() && s.charAt(p) == '!') {
      stub = 1;
      p++;
    }
    newOnes.add(new int[] {purse, l, rule, stub});
    return p;
  }

  int rule(int i) {
    String t = text.toString();
    text.setLength(0);
    if (i < 0 || i > 3) return -100;
    if (!t.isEmpty()) {
      String head = t.length() > 40 ? t.substring(0, 40) : t;
      try {
        Eval e = new Eval(head, new int[7]);
        e.expression(0);
        if (e.p < head.length()) throw new Stuck(e.p);
      } catch (Stuck s) {
        return -1 - s.at;
      }
      if (t.length() > 40) return -41;
    }
    rules[i] = t;
    return 0;
  }

  /** Reads and works out at once, as the grammar goes. */
  static final class Eval {
    final String s;
    final int[] v;
    int p = 0;

    Eval(String s, int[] v) {
      this.s = s;
      this.v = v;
    }

    char peek() {
      return p < s.length() ? s.charAt(p) : 0xffff;
    }

    int expression(int depth) {
      int a = sum(depth);
      if (peek() == '<' || peek() == '>' || peek() == '=') {
        char c = s.charAt(p++);
        int b = sum(depth);
        a = (c == '<' ? a < b : c == '>' ? a > b : a == b) ? 1 : 0;
      }
      return a;
    }

    int sum(int depth) {
      int a = product(depth);
      while (peek() == '+' || peek() == '-') {
        if (s.charAt(p++) == '+') a += product(depth); else a -= product(depth);
      }
      return a;
    }

    int product(int depth) {
      int a = signed(depth);
      while (peek() == '*' || peek() == '/') {
        char c = s.charAt(p++);
        int b = signed(depth);
        a = c == '*' ? a * b : b == 0 ? 0 : a / b;
      }
      return a;
    }

    int signed(int depth) {
      if (peek() == '-') {
        p++;
        return -signed(depth);
      }
      if (peek() == '(') {
        if (depth == 4) throw new Stuck(p);
        p++;
        int a = expression(depth + 1);
        if (peek() != ')') throw new Stuck(p);
        p++;
        return a;
      }
      if (peek() >= '0' && peek() <= '9') {
        int n = 0;
        for (int i = 0; i < 3 && peek() >= '0' && peek() <= '9'; i++) n = n * 10 + s.charAt(p++) - '0';
        return n;
      }
      int i = "tpnliqk".indexOf(peek());
      if (i < 0) throw new Stuck(p);
      p++;
      return v[i];
    }
  }

  void settle() {
    came = now.copy();
    undos.clear();
  }

  // ---- the town

  boolean has(int person) {
    return person >= 0 && person < people;
  }

  int of(int person, int what) {
    if (!has(person)) throw new NoSuchElementException();
    switch (what) {
      case 0: return now.purse[person];
      case 1: return minutes[person];
      case 2: return ruleOf[person];
      case 3: return stubborn[person] ? 1 : 0;
      case 4: return now.line.indexOf(person);
      case 5: return now.k[person];
      case 6: {
        int bits = 0;
        for (int i = 0; i < 9; i++) if (friends[person][i]) bits += 1 << i;
        return bits;
      }
      default: throw new NoSuchElementException();
    }
  }

  int law(int what, int v) {
    int[] most = {2, 99, 99, 9};
    if (what < 0 || what > 3 || v < 0 || v > most[what]) return -1;
    int was = law[what];
    law[what] = v;
    return was;
  }

  int sheet(int kind, int n, int f, int step) {
    if (kind < 0 || kind > 3 || n > 9) return -1;
    if (kind < 3 && n < 0) return -2;
    int sum = 0;
    for (int i = 0; i < people; i++) {
      int e = f + i * step;
      if (kind == 0) e = (byte) e;
      if (kind == 1) e = (short) e;
      now.purse[i] = kind == 3 || i >= n ? 0 : e < 0 ? 0 : e > 999 ? 999 : e;
      sum += now.purse[i];
    }
    return kind == 3 ? -3 : sum;
  }

  boolean friend(int one, int other, boolean is) {
    if (!has(one) || !has(other) || one == other) return false;
    friends[one][other] = is;
    friends[other][one] = is;
    return true;
  }

  int slow(int person, int v) {
    if (!has(person) || v < 1 || v > 9) return -1;
    int was = minutes[person];
    minutes[person] = v;
    return was;
  }

  int comes(int person) {
    if (!has(person) || now.line.contains(person)) return -1;
    now.line.add(person);
    settle();
    return now.line.indexOf(person);
  }

  int serve(int n) {
    if (n < 0 || n > 9) return -1;
    int done = 0;
    long worths = 0;
    long time = 0;
    while (done < n && !now.line.isEmpty()) {
      int first = now.line.get(0);
      worths += worthIn(now, first, 0);
      time += minutes[first];
      now.line.remove(0);
      done++;
    }
    settle();
    row = List.of(worths, time);
    return done;
  }

  // ---- sales

  int worthIn(State s, int person, int place) {
    List<Integer> others = new ArrayList<>(s.line);
    others.remove((Integer) person);
    int t = 0;
    for (int i = 0; i < place; i++) t += minutes[others.get(i)];
    String rule = rules[ruleOf[person]];
    if (rule.isEmpty()) return 0;
    int[] v = {t, place, s.line.size(), minutes[person], person, s.purse[person], s.k[person]};
    int w = new Eval(rule, v).expression(0);
    return w < -9999 ? -9999 : w > 9999 ? 9999 : w;
  }

  int worth(int person, int place) {
    if (!now.line.contains(person) || place < 0 || place >= now.line.size()) throw new NoSuchElementException();
    return worthIn(now, person, place);
  }

  int gain(State s, int p) {
    int b = s.line.get(p);
    return worthIn(s, b, p - 1) - worthIn(s, b, p);
  }

  int loss(State s, int p) {
    int x = s.line.get(p - 1);
    return worthIn(s, x, p - 1) - worthIn(s, x, p);
  }

  int price(State s, int p) {
    int b = s.line.get(p);
    int x = s.line.get(p - 1);
    if (friends[b][x]) return 0;
    int g = gain(s, p);
    int l = loss(s, p);
    int asked = law[0] == 0 ? l : law[0] == 1 ? (l + g) / 2 : g;
    return asked < 0 ? 0 : asked;
  }

  boolean canBe(State s, int p) {
    if (p < 1 || p >= s.line.size()) return false;
    int b = s.line.get(p);
    int x = s.line.get(p - 1);
    int all = price(s, p) + law[1];
    return !stubborn[x] && gain(s, p) > loss(s, p) && gain(s, p) >= all && s.purse[b] >= all
        && s.k[b] < law[2] && s.k[x] < law[2] && p > law[3];
  }

  State after(State s, int p) {
    State n = s.copy();
    int b = s.line.get(p);
    int x = s.line.get(p - 1);
    int price = price(s, p);
    n.purse[b] -= price + law[1];
    n.purse[x] = Math.min(999, n.purse[x] + price);
    n.k[b]++;
    n.k[x]++;
    Collections.swap(n.line, p, p - 1);
    return n;
  }

  int can(int p) {
    if (p < 1 || p >= now.line.size()) return -1;
    row = List.of((long) gain(now, p), (long) loss(now, p), (long) price(now, p));
    return canBe(now, p) ? 1 : 0;
  }

  int sell(int p) {
    if (p < 1 || p >= now.line.size()) return -1;
    if (!canBe(now, p)) return -2;
    int price = price(now, p);
    doSale(p);
    return price;
  }

  void doSale(int p) {
    undos.addLast(now);
    if (undos.size() > 40) undos.removeFirst();
    now = after(now, p);
  }

  int undo() {
    if (undos.isEmpty()) return -1;
    now = undos.removeLast();
    return undos.size();
  }

  int judge(int n, int told) {
    if (n < 0 || n > 8) return -1;
    State s = now;
    long paid = 0;
    int answer = -2;
    for (int i = 0; i < n; i++) {
      int p = (int) ((told & 0xffffffffL) >> (4 * i)) & 15;
      if (!canBe(s, p)) {
        answer = i;
        break;
      }
      paid += price(s, p) + law[1];
      s = after(s, p);
    }
    row = List.of(s.code(), paid);
    return answer;
  }

  List<Integer> openIn(State s) {
    List<Integer> open = new ArrayList<>();
    for (int p = 1; p < s.line.size(); p++) if (canBe(s, p)) open.add(p);
    return open;
  }

  int choose(State s, int sort) {
    List<Integer> open = openIn(s);
    if (open.isEmpty()) return -1;
    if (sort == 0) return open.get(0);
    if (sort == 1) return open.get(open.size() - 1);
    if (sort == 2) {
      r = r * 1103515245 + 12345;
      return open.get((int) (((r & 0xffffffffL) / 65536) % open.size()));
    }
    int best = open.get(0);
    for (int p : open) if (gain(s, p) - loss(s, p) > gain(s, best) - loss(s, best)) best = p;
    return best;
  }

  int run(int sort, int n) {
    if (sort < 0 || sort > 3 || n < 0 || n > 200) return -1;
    int made = 0;
    long paid = 0;
    while (made < n) {
      int p = choose(now, sort);
      if (p < 0) break;
      paid += price(now, p) + law[1];
      doSale(p);
      made++;
    }
    row = List.of(openIn(now).isEmpty() ? 1L : 0L, paid);
    return made;
  }

  int open() {
    int bits = 0;
    for (int p : openIn(now)) bits |= 1 << p;
    return bits;
  }

  /** All purses of both are tried where a rule asks for them. */
  int walls() {
    long yes = 0;
    long no = 0;
    for (int p = 1; p < now.line.size(); p++) {
      int b = now.line.get(p);
      int x = now.line.get(p - 1);
      boolean could = false;
      State s = now.copy();
      int sellersMost = rules[ruleOf[x]].indexOf('q') >= 0 ? 999 : 0;
      Set<Integer> losses = new HashSet<>();
      for (int qs = 0; qs <= sellersMost && !could; qs++) {
        s.purse[x] = qs;
        if (!losses.add(loss(s, p))) continue;
        int buyersLeast = rules[ruleOf[b]].indexOf('q') >= 0 ? 0 : 999;
        for (int qb = 999; qb >= buyersLeast && !could; qb--) {
          s.purse[b] = qb;
          could = canBe(s, p);
        }
      }
      if (could) yes |= 1L << p; else no |= 1L << p;
    }
    row = List.of(yes, no);
    return Long.bitCount(yes);
  }

  // ---- what comes of it

  int sumOf(State s) {
    int sum = 0;
    for (int p = 0; p < s.line.size(); p++) sum += worthIn(s, s.line.get(p), p);
    return sum;
  }

  int sum() {
    row = new ArrayList<>();
    for (int p = 0; p < now.line.size(); p++) row.add((long) worthIn(now, now.line.get(p), p));
    return sumOf(now);
  }

  long[] gainedParts(int person) {
    State then = came.copy();
    then.k = now.k.clone();
    int was = worthIn(then, person, then.line.indexOf(person));
    return new long[] {worthIn(now, person, now.line.indexOf(person)) - was, now.purse[person] - came.purse[person]};
  }

  int gained(int person) {
    if (!now.line.contains(person)) throw new NoSuchElementException();
    long[] parts = gainedParts(person);
    row = List.of(parts[0], parts[1]);
    return (int) (parts[0] + parts[1]);
  }

  int winner() {
    if (now.line.isEmpty()) return -2;
    long most = Long.MIN_VALUE;
    int who = -1;
    long none = 0;
    for (int person : now.line) {
      long[] parts = gainedParts(person);
      if (parts[0] + parts[1] > most) {
        most = parts[0] + parts[1];
        who = person;
      }
      if (parts[0] + parts[1] <= 0) none++;
    }
    row = List.of(most, none);
    return who;
  }

  State farForward(State from, int person, long[] paid) {
    State s = from;
    while (canBe(s, s.line.indexOf(person))) {
      paid[0] += price(s, s.line.indexOf(person)) + law[1];
      s = after(s, s.line.indexOf(person));
    }
    return s;
  }

  int forward(int person) {
    if (!now.line.contains(person)) return -1;
    long[] paid = {0};
    State s = farForward(now, person, paid);
    row = List.of(paid[0], (long) s.purse[person]);
    return s.line.indexOf(person);
  }

  State farBack(State from, int person, long[] got) {
    State s = from;
    while (canBe(s, s.line.indexOf(person) + 1)) {
      got[0] += price(s, s.line.indexOf(person) + 1);
      s = after(s, s.line.indexOf(person) + 1);
    }
    return s;
  }

  int back(int person) {
    if (!now.line.contains(person)) return -1;
    long[] got = {0};
    State s = farBack(now, person, got);
    row = List.of(got[0]);
    return s.line.indexOf(person);
  }

  int stand(int person) {
    if (!has(person) || now.line.contains(person)) return -1;
    long most = -1;
    int best = -1;
    long where = -1;
    for (int p = 0; p <= now.line.size(); p++) {
      State s = now.copy();
      s.line.add(p, person);
      long[] got = {0};
      State e = farBack(s, person, got);
      if (got[0] >= most) {
        most = got[0];
        best = p;
        where = e.line.indexOf(person);
      }
    }
    row = List.of(most, where);
    return best;
  }

  int needs(int person) {
    if (!now.line.contains(person)) return -1;
    for (int q = 0; q <= 999; q++) {
      State s = now.copy();
      s.purse[person] = q;
      long[] paid = {0};
      if (farForward(s, person, paid).line.get(0) == person) {
        row = List.of(paid[0]);
        return q;
      }
    }
    return -2;
  }

  // ---- all lines that can come

  static boolean less(List<Integer> a, List<Integer> b) {
    for (int i = 0; i < a.size() && i < b.size(); i++) {
      if (!a.get(i).equals(b.get(i))) return a.get(i) < b.get(i);
    }
    return a.size() < b.size();
  }

  /** Layer by layer; null: more than 2000. */
  List<Node> all() {
    Map<String, Node> nodes = new LinkedHashMap<>();
    Node first = new Node();
    first.state = now;
    first.ways = 1;
    first.row = new ArrayList<>();
    first.leastRow = new ArrayList<>();
    nodes.put(now.key(), first);
    List<Node> layer = List.of(first);
    while (!layer.isEmpty()) {
      Map<String, Node> next = new LinkedHashMap<>();
      for (Node n : layer) {
        for (int p : openIn(n.state)) {
          n.rest = false;
          State s = after(n.state, p);
          long paid = n.paid + price(n.state, p) + law[1];
          List<Integer> row = new ArrayList<>(n.row);
          row.add(p);
          List<Integer> leastRow = new ArrayList<>(n.leastRow);
          leastRow.add(p);
          Node m = next.get(s.key());
          if (m == null) {
            m = new Node();
            m.state = s;
            m.depth = n.depth + 1;
            m.paid = paid;
            m.row = row;
            m.leastRow = leastRow;
            next.put(s.key(), m);
            if (nodes.size() + next.size() > 2000) return null;
          }
          m.ways += n.ways;
          if (paid < m.paid || paid == m.paid && less(row, m.row)) {
            m.paid = paid;
            m.row = row;
          }
          if (less(leastRow, m.leastRow)) m.leastRow = leastRow;
        }
      }
      nodes.putAll(next);
      layer = new ArrayList<>(next.values());
    }
    return new ArrayList<>(nodes.values());
  }

  int lines() {
    List<Node> all = all();
    if (all == null) return -3;
    Set<Long> codes = new HashSet<>();
    long rests = 0;
    long most = -1;
    long fewest = 99999;
    for (Node n : all) {
      codes.add(n.state.code());
      if (n.rest) {
        rests++;
        most = Math.max(most, n.depth);
        fewest = Math.min(fewest, n.depth);
      }
    }
    row = List.of((long) codes.size(), rests, most, fewest);
    return all.size();
  }

  boolean told(long code) {
    List<Character> digits = new ArrayList<>();
    for (char c : Long.toString(code).toCharArray()) digits.add(c);
    if (digits.get(0) != '1') return false;
    digits.remove(0);
    Collections.sort(digits);
    List<Character> have = new ArrayList<>();
    for (int x : now.line) have.add((char) ('0' + x));
    Collections.sort(have);
    return digits.equals(have);
  }

  int cheapest(long code) {
    if (!told(code)) return -1;
    List<Node> all = all();
    if (all == null) return -3;
    Node best = null;
    for (Node n : all) {
      if (n.state.code() != code) continue;
      if (best == null || n.paid < best.paid
          || n.paid == best.paid && (n.depth < best.depth || n.depth == best.depth && less(n.row, best.row))) {
        best = n;
      }
    }
    if (best == null) return -2;
    row = new ArrayList<>();
    for (int i = 0; i < best.row.size() && i < 8; i++) row.add((long) best.row.get(i));
    return (int) best.paid;
  }

  long paths(long code) {
    if (!told(code)) return -1;
    List<Node> all = all();
    if (all == null) return -3;
    long ways = 0;
    long restWays = 0;
    boolean found = false;
    for (Node n : all) {
      if (n.state.code() == code) {
        found = true;
        ways += n.ways;
      }
      if (n.rest) restWays += n.ways;
    }
    if (!found) return -2;
    row = List.of(restWays);
    return ways;
  }

  int ends(int person) {
    if (!now.line.contains(person)) return -1;
    List<Node> all = all();
    if (all == null) return -3;
    int bits = 0;
    long least = 9999;
    long greatest = -1;
    for (Node n : all) {
      if (!n.rest) continue;
      bits |= 1 << n.state.line.indexOf(person);
      least = Math.min(least, n.state.purse[person]);
      greatest = Math.max(greatest, n.state.purse[person]);
    }
    row = List.of(least, greatest);
    return bits;
  }

  int foremost(int person) {
    if (!now.line.contains(person)) return -1;
    List<Node> all = all();
    if (all == null) return -3;
    int place = 99;
    for (Node n : all) place = Math.min(place, n.state.line.indexOf(person));
    long purse = -1;
    for (Node n : all) if (n.state.line.indexOf(person) == place) purse = Math.max(purse, n.state.purse[person]);
    long few = 99999;
    for (Node n : all) {
      if (n.state.line.indexOf(person) == place && n.state.purse[person] == purse) few = Math.min(few, n.depth);
    }
    row = List.of(purse, few);
    return place;
  }

  int finest() {
    List<Node> all = all();
    if (all == null) return -3;
    int best = Integer.MIN_VALUE;
    for (Node n : all) if (n.rest) best = Math.max(best, sumOf(n.state));
    long code = Long.MAX_VALUE;
    for (Node n : all) if (n.rest && sumOf(n.state) == best) code = Math.min(code, n.state.code());
    row = List.of(code);
    return best;
  }

  int rises() {
    List<Node> all = all();
    if (all == null) return -3;
    List<Integer> worst = null;
    long more = 0;
    for (Node n : all) {
      for (int p : openIn(n.state)) {
        int d = sumOf(after(n.state, p)) - sumOf(n.state);
        if (d > 0) continue;
        List<Integer> row = new ArrayList<>(n.leastRow);
        row.add(p);
        if (worst == null || row.size() < worst.size() || row.size() == worst.size() && less(row, worst)) {
          worst = row;
          more = d;
        }
      }
    }
    if (worst == null) return 1;
    row = List.of((long) worst.get(worst.size() - 1), more);
    return 0;
  }

  // ---- all orders

  List<State> allOrders() {
    TreeMap<Long, State> found = new TreeMap<>();
    List<Integer> sorted = new ArrayList<>(now.line);
    Collections.sort(sorted);
    permute(new ArrayList<>(), sorted, found);
    return new ArrayList<>(found.values());
  }

  private void permute(List<Integer> head, List<Integer> left, TreeMap<Long, State> found) {
    if (left.isEmpty()) {
      State s = now.copy();
      s.line = new ArrayList<>(head);
      found.put(s.code(), s);
      return;
    }
    for (int i = 0; i < left.size(); i++) {
      List<Integer> h = new ArrayList<>(head);
      h.add(left.get(i));
      List<Integer> l = new ArrayList<>(left);
      l.remove(i);
      permute(h, l, found);
    }
  }

  long order() {
    if (now.line.size() > 7) return -3;
    int best = Integer.MIN_VALUE;
    long code = 0;
    for (State s : allOrders()) {
      if (sumOf(s) > best) {
        best = sumOf(s);
        code = s.code();
      }
    }
    row = List.of(code);
    return best;
  }

  int rests() {
    if (now.line.size() > 7) return -3;
    int found = 0;
    long code = 0;
    long best = Integer.MIN_VALUE;
    for (State s : allOrders()) {
      if (!openIn(s).isEmpty()) continue;
      if (found == 0) code = s.code();
      found++;
      best = Math.max(best, sumOf(s));
    }
    row = found == 0 ? new ArrayList<>() : List.of(code, best);
    return found;
  }

  int places(int person) {
    if (!now.line.contains(person)) return -1;
    if (now.line.size() > 7) return -3;
    long[] often = new long[9];
    int bits = 0;
    for (State s : allOrders()) {
      if (!openIn(s).isEmpty()) continue;
      often[s.line.indexOf(person)]++;
      bits |= 1 << s.line.indexOf(person);
    }
    if (bits == 0) return 0;
    int most = 0;
    for (int i = 0; i < 9; i++) if (often[i] > often[most]) most = i;
    row = List.of((long) most, often[most]);
    return bits;
  }

  // ---- laws

  boolean steady(int run) {
    return run == 0 || run == 1 || run == 3;
  }

  State runTo(int sort, int[] made) {
    State s = now;
    for (made[0] = 0; made[0] < 200; made[0]++) {
      int p = choose(s, sort);
      if (p < 0) break;
      s = after(s, p);
    }
    return s;
  }

  int best(int run) {
    if (!steady(run)) return -1;
    int[] was = law;
    int best = Integer.MIN_VALUE;
    for (int sort = 0; sort < 3; sort++) {
      for (int fee = 0; fee < 10; fee++) {
        for (int most : new int[] {0, 1, 2, 3, 99}) {
          law = new int[] {sort, fee, most, was[3]};
          int sum = sumOf(runTo(run, new int[1]));
          if (sum > best) {
            best = sum;
            row = List.of((long) sort, (long) fee, (long) most);
          }
        }
      }
    }
    law = was;
    return best;
  }

  int[] salesByFee(int run) {
    int[] was = law;
    int[] made = new int[100];
    for (int fee = 0; fee < 100; fee++) {
      law = new int[] {was[0], fee, was[2], was[3]};
      int[] m = new int[1];
      runTo(run, m);
      made[fee] = m[0];
    }
    law = was;
    return made;
  }

  int bear(int run) {
    if (!steady(run)) return -1;
    int[] made = salesByFee(run);
    int greatest = 0;
    for (int fee = 0; fee < 100; fee++) if (made[fee] == made[0]) greatest = fee;
    row = List.of((long) made[0], (long) made[0] * greatest);
    return greatest;
  }

  int tax(int run) {
    if (!steady(run)) return -1;
    int[] made = salesByFee(run);
    int best = 0;
    for (int fee = 0; fee < 100; fee++) if (made[fee] * fee > made[best] * best) best = fee;
    row = List.of((long) made[best] * best, (long) made[best]);
    return best;
  }

  int turned(int person, int run) {
    if (!steady(run) || !now.line.contains(person)) return -1;
    int is = sumOf(runTo(run, new int[1]));
    stubborn[person] = !stubborn[person];
    int other = sumOf(runTo(run, new int[1]));
    stubborn[person] = !stubborn[person];
    return other - is;
  }

  // ---- kept

  int seed(int v) {
    int was = r;
    r = v;
    return was;
  }

  boolean keep(int i) {
    if (i < 0 || i > 1) return false;
    Keep k = new Keep();
    k.now = now.copy();
    k.came = came.copy();
    k.law = law.clone();
    k.r = r;
    k.people = people;
    kept[i] = k;
    return true;
  }

  boolean again(int i) {
    if (i < 0 || i > 1 || kept[i] == null || kept[i].people != people) return false;
    now = kept[i].now.copy();
    came = kept[i].came.copy();
    law = kept[i].law.clone();
    r = kept[i].r;
    undos.clear();
    return true;
  }

  int count(int what) {
    int told = 0;
    for (int i = 0; i < 4; i++) if (!rules[i].isEmpty()) told |= 1 << i;
    int purses = 0;
    for (int i = 0; i < people; i++) purses += now.purse[i];
    int[] all = {people, now.line.size(), undos.size(), told, purses, row.size(), text.length()};
    return what < 0 || what > 6 ? -1 : all[what];
  }

  long line() {
    return now.code();
  }

  long row(int i) {
    if (i < 0 || i >= row.size()) throw new NoSuchElementException();
    return row.get(i);
  }
}
