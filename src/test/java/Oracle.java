import java.util.ArrayList;
import java.util.List;
import java.util.TreeMap;

/**
 * The document once more, written as plainly as can be and with no care for speed or room:
 * everything that is sought is sought by trying all there is. Random runs are compared with it.
 */
final class Oracle {
  static final class Fault extends RuntimeException { final int at; Fault(int at) { super(null, null, false, false); this.at = at; } }
  static final class Broken extends RuntimeException { Broken() { super(null, null, false, false); } }

  interface Node { long worth(java.util.Map<String, Long> words); }
  record Clause(String verb, Node sum, int times, Node test) {}
  record Token(String text, int at) {}

  static final class Person implements Cloneable {
    int trade, prizes, parent; boolean entered; int[] strength = new int[4];
    Person copy() { Person p = new Person(); p.trade = trade; p.prizes = prizes; p.parent = parent; p.entered = entered; p.strength = strength.clone(); return p; }
  }

  static final class World {
    List<Person> people = new ArrayList<>();
    int gap, year, trips = 1, mood, force = -1;
    boolean[][] beats = new boolean[7][7];
    List<int[]> seen = new ArrayList<>();
    List<List<Clause>> laws = new ArrayList<>();
    World copy() {
      World w = new World();
      for (Person p : people) w.people.add(p.copy());
      w.gap = gap; w.year = year; w.trips = trips; w.mood = mood; w.force = force;
      for (int i = 0; i < 7; i++) w.beats[i] = beats[i].clone();
      w.seen.addAll(seen); w.laws.addAll(laws);
      return w;
    }
    List<Clause> law() { return force < 0 ? List.of() : laws.get(force); }
  }

  record Undo(int kind, World ahead) {}

  World w = new World();
  World[] images = new World[2];
  World centuries = null;
  List<Undo> undos = new ArrayList<>();
  List<Integer> tape = new ArrayList<>();
  int fault = -1, stopped = -1, blots = 0, status = 0;
  TreeMap<Integer, Integer> refusals = new TreeMap<>();

  int no(int by) { status = by; refusals.merge(by, 1, Integer::sum); return by; }
  int yes(int n) { status = 0; return n; }
  int told(int n) { return n < 0 ? no(n) : yes(n); }
  boolean is(int p) { return p >= 0 && p < w.people.size(); }

  // ---- the languages

  List<Token> tokens(String text) {
    List<Token> all = new ArrayList<>();
    java.util.regex.Matcher m = java.util.regex.Pattern.compile("[a-z]+|[0-9]+|[^ ]", java.util.regex.Pattern.DOTALL).matcher(text);
    while (m.find()) all.add(new Token(m.group(), m.start()));
    all.add(new Token("", text.length()));
    return all;
  }

  final class Grammar {
    final List<Token> tokens; final boolean law; int i = 0, parts = 0;
    Grammar(String text, boolean law) { tokens = tokens(text); this.law = law; }
    String see() { return tokens.get(i).text(); }
    Fault fault() { return new Fault(tokens.get(i).at()); }
    boolean accept(String s) { if (see().equals(s)) { i++; return true; } return false; }
    void expect(String s) { if (!accept(s)) throw fault(); }
    long number(long least, long most) {
      if (!see().matches("[0-9]+")) throw fault();
      java.math.BigInteger n = new java.math.BigInteger(see());
      if (n.compareTo(java.math.BigInteger.valueOf(most)) > 0 || n.compareTo(java.math.BigInteger.valueOf(least)) < 0) throw fault();
      i++;
      return n.longValue();
    }
    List<Clause> text() {
      List<Clause> all = new ArrayList<>();
      do { if (all.size() == 12) throw fault(); all.add(clause()); } while (accept(";"));
      if (!see().isEmpty()) throw fault();
      return all;
    }
    Clause clause() {
      String verb = see();
      List<String> verbs = law ? List.of("runs", "turns", "wins", "bars") : List.of("race", "enter", "take", "pass");
      if (!verbs.contains(verb)) throw fault();
      i++;
      Node sum = verb.equals("bars") || verb.equals("pass") ? null : sum(0);
      int times = !law && accept("times") ? (int) number(1, 20) : 1;
      Node test = accept("if") ? test(0) : null;
      return new Clause(verb, sum, times, test);
    }
    Node test(int deep) {
      Node left = both(deep);
      while (accept("or")) { Node a = left, b = both(deep); left = m -> a.worth(m) == 1 || b.worth(m) == 1 ? 1 : 0; }
      return left;
    }
    Node both(int deep) {
      Node left = plain(deep);
      while (accept("and")) { Node a = left, b = plain(deep); left = m -> a.worth(m) == 1 && b.worth(m) == 1 ? 1 : 0; }
      return left;
    }
    Node plain(int deep) {
      if (accept("not")) { Node a = plain(deep); return m -> 1 - a.worth(m); }
      if (see().equals("(")) {
        if (deep == 8) throw fault();
        i++;
        Node a = test(deep + 1);
        expect(")");
        return a;
      }
      Node a = sum(deep);
      String sign = see();
      if (!List.of("<", ">", "=").contains(sign)) throw fault();
      i++;
      Node b = sum(deep);
      return m -> { int c = Long.compare(a.worth(m), b.worth(m)); return (sign.equals("<") ? c < 0 : sign.equals(">") ? c > 0 : c == 0) ? 1 : 0; };
    }
    long kept(long n) { if (Math.abs(n) > 1_000_000_000L) throw new Broken(); return n; }
    Node sum(int deep) {
      Node left = term(deep);
      while (see().equals("+") || see().equals("-")) {
        boolean plus = accept("+");
        if (!plus) i++;
        Node a = left, b = term(deep);
        left = m -> { long x = a.worth(m), y = b.worth(m); return kept(plus ? x + y : x - y); };
      }
      return left;
    }
    Node term(int deep) {
      Node left = part(deep);
      while (List.of("*", "/", "%").contains(see())) {
        String sign = see();
        i++;
        Node a = left, b = part(deep);
        left = m -> {
          long x = a.worth(m), y = b.worth(m);
          if (sign.equals("*")) return kept(x * y);
          if (y == 0) throw new Broken();
          return sign.equals("/") ? x / y : x % y;
        };
      }
      return left;
    }
    Node part(int deep) {
      if (see().equals("[")) {
        if (deep == 8) throw fault();
        i++;
        Node a = sum(deep + 1);
        expect("]");
        return a;
      }
      if (parts == 50) throw fault();
      parts++;
      if (see().matches("[0-9]+")) { long n = number(0, 1000); return m -> n; }
      String word = see();
      if (law && List.of("person", "race", "strength", "trade", "prizes", "place", "gap", "year", "mood").contains(word)) { i++; return m -> m.get(word); }
      if (!law && List.of("year", "done", "latest", "gap", "entered").contains(word)) { i++; return m -> m.get(word); }
      if (!law && List.of("prizes", "trade").contains(word)) { i++; long p = number(0, 6); return m -> m.get(word + p); }
      throw fault();
    }
  }

  String text() { StringBuilder b = new StringBuilder(); for (int c : tape) b.append((char) c); return b.toString(); }

  /** Null with a fault. */
  List<Clause> read(boolean law) {
    String text = text();
    tape.clear();
    fault = -1;
    try { return new Grammar(text, law).text(); } catch (Fault f) { fault = f.at; return null; }
  }

  // ---- the law, asked

  Long lawTells(World in, List<Clause> law, String verb, int p, int race, int place) {
    Person q = in.people.get(p);
    java.util.Map<String, Long> m = new java.util.HashMap<>();
    m.put("person", (long) p); m.put("race", (long) race); m.put("strength", (long) q.strength[race]); m.put("trade", (long) q.trade);
    m.put("prizes", (long) q.prizes); m.put("place", (long) place); m.put("gap", (long) in.gap); m.put("year", (long) in.year); m.put("mood", (long) in.mood);
    Long last = null;
    for (Clause c : law) {
      if (!c.verb().equals(verb)) continue;
      try {
        if (c.test() != null && c.test().worth(m) != 1) continue;
        last = c.sum() == null ? 1L : c.sum().worth(m);
      } catch (Broken b) { }
    }
    return last;
  }
  int near(long n, int most) { return n < 0 ? 0 : n > most ? most : (int) n; }
  boolean barred(World in, List<Clause> law, int p, int race) { return lawTells(in, law, "bars", p, race, -1) != null; }
  int runs(World in, List<Clause> law, int p, int race) { Long n = lawTells(in, law, "runs", p, race, -1); return n == null ? in.people.get(p).strength[race] : near(n, 99); }
  int turns(World in, List<Clause> law, int p, int race) { Long n = lawTells(in, law, "turns", p, race, 2); return n == null ? (in.people.get(p).trade + 1) % 10 : near(n, 9); }
  int wins(World in, List<Clause> law, int p, int race, int place) { Long n = lawTells(in, law, "wins", p, race, place); return n == null ? 4 - place : near(n, 9); }

  List<Integer> line(World in, List<Clause> law, int race) {
    List<Integer> all = new ArrayList<>();
    for (int p = 0; p < in.people.size(); p++) if (in.people.get(p).entered && !barred(in, law, p, race)) all.add(p);
    all.sort((a, b) -> { int c = runs(in, law, b, race) - runs(in, law, a, race); return c != 0 ? c : a - b; });
    return all;
  }

  // ---- the moves, each of which answers what it tells or is refused by

  int doRace(World in, int race) {
    if (race < 0 || race > 3) return -1;
    List<Integer> line = line(in, in.law(), race);
    if (line.isEmpty()) return -3;
    World was = in.copy();
    for (int place = 1; place <= 3 && place <= line.size(); place++) {
      int p = line.get(place - 1), n = wins(was, was.law(), p, race, place);
      if (place == 2) { in.gap = Math.min(999, in.gap + n); in.people.get(p).trade = turns(was, was.law(), p, race); }
      else in.people.get(p).prizes = Math.min(999, in.people.get(p).prizes + n);
    }
    for (int p : line) in.people.get(p).entered = false;
    return line.get(0);
  }
  int doEnter(World in, int p) {
    if (p < 0 || p >= in.people.size()) return -2;
    return (in.people.get(p).entered = !in.people.get(p).entered) ? 1 : 0;
  }
  int doTake(World in, int p) {
    if (p < 0 || p >= in.people.size()) return -2;
    if (in.gap == 0) return -3;
    int was = in.gap;
    in.people.get(p).prizes = Math.min(999, in.people.get(p).prizes + was);
    in.gap = 0;
    return was;
  }
  int doPass(World in) {
    if (in.year == 999) return -3;
    int n = 0;
    for (int p = 0; p < in.people.size(); p++) {
      boolean again = false;
      for (int q = 0; q < p; q++) again |= in.people.get(q).trade == in.people.get(p).trade;
      if (again) { in.people.get(p).trade = turns(in, in.law(), p, 0); n++; }
    }
    in.year++;
    return n;
  }
  int move(int kind, int n) {
    World ahead = w.copy();
    int told = kind == 0 ? doRace(w, n) : kind == 1 ? doEnter(w, n) : kind == 2 ? doTake(w, n) : doPass(w);
    if (told >= 0) { undos.add(new Undo(kind, ahead)); if (undos.size() > 16) undos.remove(0); }
    return told;
  }

  // ---- the face

  public int person(int trade, int parent) {
    if (trade < 0 || trade > 9 || parent != -1 && !is(parent)) return no(-1);
    if (w.people.size() == 7) return no(-5);
    Person p = new Person();
    p.trade = trade; p.parent = parent;
    w.people.add(p);
    undos.clear();
    return yes(w.people.size() - 1);
  }
  public int of(int person, int what) {
    if (!is(person)) return -1;
    Person p = w.people.get(person);
    switch (what) {
      case 0: return p.trade;
      case 1: return p.prizes;
      case 2: return p.entered ? 1 : 0;
      case 3: return p.parent;
      case 4: case 5: case 6: case 7: return p.strength[what - 4];
      case 8: case 9: case 10: case 11: return runs(w, w.law(), person, what - 8);
      case 12: case 13: case 14: case 15: return barred(w, w.law(), person, what - 12) ? 1 : 0;
      default: return -1;
    }
  }
  public int strength(int person, int race, int n) {
    if (race < 0 || race > 3 || n < 0 || n > 9) return no(-1);
    if (!is(person)) return no(-2);
    int was = w.people.get(person).strength[race];
    w.people.get(person).strength[race] = n;
    return yes(was);
  }
  public int beats(int one, int other, int is) {
    if (one == other || is != 0 && is != 1) return no(-1);
    if (!is(one) || !is(other)) return no(-2);
    int was = w.beats[one][other] ? 1 : 0;
    w.beats[one][other] = is == 1;
    return yes(was);
  }
  public int placed(int race, int what) {
    if (race < 0 || race > 3) return -1;
    List<Integer> line = line(w, w.law(), race);
    if (what == 0) return line.size();
    return what < 1 || what > line.size() ? -1 : line.get(what - 1);
  }
  public int terms(int what, int value) {
    if (what < 0 || what > 2 || value < 0 || value > new int[] {999, 10, 9}[what]) return no(-1);
    int was = what == 0 ? w.year : what == 1 ? w.trips : w.mood;
    if (what == 0) w.year = value;
    if (what == 1) w.trips = value;
    if (what == 2) w.mood = value;
    undos.clear();
    return yes(was);
  }
  public int feed(int a, int b, int c, int d, int e) {
    if (tape.size() > 380) return -1;
    for (int n : new int[] {a, b, c, d, e}) for (byte x : java.nio.ByteBuffer.allocate(4).putInt(n).array()) tape.add(x & 255);
    return tape.size();
  }
  public int end(int n) {
    if (n < 0 || n > tape.size()) return -1;
    tape = new ArrayList<>(tape.subList(0, n));
    return n;
  }
  public int row() {
    if (tape.isEmpty()) return no(-6);
    int n = 0;
    blots = 0;
    while (!tape.isEmpty()) {
      List<Integer> five = new ArrayList<>(tape.subList(0, Math.min(5, tape.size())));
      tape = new ArrayList<>(tape.subList(five.size(), tape.size()));
      boolean good = five.size() == 5 && is(five.get(0));
      for (int i = 1; i < five.size(); i++) good &= five.get(i) <= 9;
      if (!good) { blots++; continue; }
      for (int i = 0; i < 4; i++) w.people.get(five.get(0)).strength[i] = five.get(i + 1);
      n++;
    }
    return yes(n);
  }
  public int blots() { return blots; }
  public int law() {
    if (w.laws.size() == 6) { tape.clear(); return no(-5); }
    List<Clause> law = read(true);
    if (law == null) return no(-6);
    w.laws.add(law);
    return yes(w.laws.size() - 1);
  }
  public int orders() {
    stopped = -1;
    List<Clause> orders = read(false);
    if (orders == null) return no(-6);
    World ahead = w.copy();
    List<Undo> undosAhead = new ArrayList<>(undos);
    int done = 0, latest = -1, clause = 0;
    for (Clause c : orders) {
      for (int t = 0; t < c.times(); t++) {
        java.util.Map<String, Long> m = new java.util.HashMap<>();
        m.put("year", (long) w.year); m.put("done", (long) done); m.put("latest", (long) latest); m.put("gap", (long) w.gap);
        m.put("entered", w.people.stream().filter(p -> p.entered).count());
        for (int p = 0; p < 7; p++) { m.put("prizes" + p, is(p) ? w.people.get(p).prizes : -1L); m.put("trade" + p, is(p) ? w.people.get(p).trade : -1L); }
        try { if (c.test() != null && c.test().worth(m) != 1) continue; } catch (Broken b) { continue; }
        int told;
        try {
          int n = c.sum() == null ? 0 : (int) c.sum().worth(m);
          told = move(List.of("race", "enter", "take", "pass").indexOf(c.verb()), n);
        } catch (Broken b) { told = -3; }
        if (told < 0) { w = ahead; undos = undosAhead; stopped = clause; return no(-3); }
        done++;
        if (c.verb().equals("race")) latest = told;
      }
      clause++;
    }
    return yes(done);
  }
  public int fault() { return fault; }
  public int stopped() { return stopped; }
  public int force(int law) {
    if (law < -1 || law >= w.laws.size()) return no(-2);
    int was = w.force;
    w.force = law;
    return yes(was);
  }
  public int race(int race) { return told(move(0, race)); }
  public int enter(int person) { return told(move(1, person)); }
  public int take(int person) { return told(move(2, person)); }
  public int pass() { return told(move(3, 0)); }
  public int undo() {
    if (undos.isEmpty()) return no(-3);
    Undo u = undos.remove(undos.size() - 1);
    for (int p = 0; p < w.people.size(); p++) {
      w.people.get(p).trade = u.ahead().people.get(p).trade;
      w.people.get(p).prizes = u.ahead().people.get(p).prizes;
      w.people.get(p).entered = u.ahead().people.get(p).entered;
    }
    w.gap = u.ahead().gap;
    w.year = u.ahead().year;
    return yes(u.kind());
  }
  public int be(int person, int race, int place, int what) {
    if (!is(person) || race < 0 || race > 3 || place < 1 || place > 7 || what < 0 || what > 1) return -1;
    int best = -1;
    for (int bits = 0; bits < 1 << w.people.size(); bits++) {
      if ((bits >> person & 1) == 1) continue;
      World then = w.copy();
      for (int p = 0; p < 7; p++) if ((bits >> p & 1) == 1) then.people.get(p).entered = !then.people.get(p).entered;
      then.people.get(person).entered = true;
      if (line(then, then.law(), race).indexOf(person) != place - 1) continue;
      if (best == -1 || Integer.bitCount(bits) < Integer.bitCount(best)) best = bits;
    }
    return what == 1 || best == -1 ? best : Integer.bitCount(best);
  }
  public int seen(int race, int trade) {
    if (race < 0 || race > 3 || trade < 0 || trade > 9) return no(-1);
    if (w.seen.size() == 6) return no(-5);
    w.seen.add(new int[] {race, trade});
    return yes(w.seen.size());
  }
  public int forget() { int was = w.seen.size(); w.seen.clear(); return was; }
  public int canBe() {
    int bits = 0;
    for (int p = 0; p < w.people.size(); p++) {
      boolean can = true;
      for (int[] s : w.seen) can &= turns(w, w.law(), p, s[0]) == s[1];
      if (can) bits |= 1 << p;
    }
    return bits;
  }
  public int look(int what) {
    int bits = canBe(), race = -1, fewest = 99;
    if (bits == 0 || what < 0 || what > 1) return -1;
    for (int r = 0; r < 4; r++) {
      int most = 0;
      for (int t = 0; t < 10; t++) {
        int n = 0;
        for (int p = 0; p < 7; p++) if ((bits >> p & 1) == 1 && turns(w, w.law(), p, r) == t) n++;
        most = Math.max(most, n);
      }
      if (most < fewest) { fewest = most; race = r; }
    }
    return what == 0 ? race : fewest;
  }
  int[] bestRow; int bestBroken;
  void rows(List<Integer> row) {
    int n = w.people.size();
    if (row.size() == n) {
      int broken = 0;
      for (int i = 0; i < n; i++) for (int j = i + 1; j < n; j++) if (w.beats[row.get(j)][row.get(i)]) broken++;
      if (bestRow == null || broken < bestBroken) { bestBroken = broken; bestRow = row.stream().mapToInt(x -> x).toArray(); }
      return;
    }
    for (int p = 0; p < n; p++) if (!row.contains(p)) { row.add(p); rows(row); row.remove(row.size() - 1); }
  }
  public int ranking(int what) {
    bestRow = null;
    rows(new ArrayList<>());
    if (what == 0) return bestBroken;
    return what < 1 || what > w.people.size() ? -1 : bestRow[what - 1];
  }
  public int circles() {
    java.util.Set<Integer> threes = new java.util.TreeSet<>();
    for (int a = 0; a < 7; a++) for (int b = 0; b < 7; b++) for (int c = 0; c < 7; c++)
      if (w.beats[a][b] && w.beats[b][c] && w.beats[c][a]) threes.add(1 << a | 1 << b | 1 << c);
    return threes.size();
  }
  public int crowned(int what) {
    if (what < 0 || what > 4) return -1;
    int[] row = new int[4], best = null;
    int most = -1, n = w.people.size();
    int[][] score = new int[4][8];
    for (int r = 0; r < 4; r++) for (int p = 0; p < n; p++) score[r][p] = barred(w, w.law(), p, r) ? -1 : runs(w, w.law(), p, r);
    all:
    for (int code = 0; code < 4096; code++) {
      int sum = 0, used = 0;
      for (int r = 0; r < 4; r++) {
        int p = code >> 3 * (3 - r) & 7;
        row[r] = p;
        if (p == 7) continue;
        if (p >= n || score[r][p] < 0 || (used >> p & 1) == 1) continue all;
        used |= 1 << p;
        sum += score[r][p];
      }
      // Person 6 and nobody (7) are both told by one digit, so rows come in their order.
      if (sum > most) { most = sum; best = row.clone(); }
    }
    return what == 0 ? most : best[what - 1];
  }
  void line(int parent, List<Integer> all) {
    int nth = 0;
    for (int p = 0; p < w.people.size(); p++) {
      if (w.people.get(p).parent != parent) continue;
      if (++nth != 2) all.add(p);
      line(p, all);
    }
  }
  public int heir(int i) {
    List<Integer> all = new ArrayList<>();
    line(-1, all);
    if (i == -1) return all.size();
    return i < 0 || i >= all.size() ? -1 : all.get(i);
  }
  public long ladder(int n, int k) {
    if (n < 1 || n > 60 || k < 1 || k > 5) return -1;
    // Forward: what stands on a rung goes on from it.
    long[] on = new long[70];
    on[0] = 1;
    for (int i = 0; i < n; i++) for (int s = 1; s <= k; s++) if (i + s != 2) on[i + s] += on[i];
    return on[n];
  }
  public int never() {
    int bits = 0, n = w.people.size();
    for (int p = 0; p < n; p++) {
      boolean second = false;
      for (int set = 0; set < 1 << n; set++) {
        World then = w.copy();
        for (int q = 0; q < n; q++) then.people.get(q).entered = q == p || (set >> q & 1) == 1;
        for (int r = 0; r < 4; r++) second |= line(then, then.law(), r).indexOf(p) == 1;
        if (second) break;
      }
      if (!second) bits |= 1 << p;
    }
    return bits;
  }
  public long few(int k, int n) {
    if (k < 1 || k > 20 || n < 0 || n > 99) return -1;
    java.math.BigInteger ten = java.math.BigInteger.TEN, trips = java.math.BigInteger.valueOf(w.trips), rest = ten.subtract(trips);
    List<java.math.BigInteger> parts = new ArrayList<>(List.of(ten.pow(12)));
    for (int i = 0; i < n; i++) {
      List<java.math.BigInteger> next = new ArrayList<>();
      for (int j = 0; j <= parts.size(); j++) next.add(java.math.BigInteger.ZERO);
      for (int j = 0; j < parts.size(); j++) {
        next.set(j, next.get(j).add(parts.get(j).multiply(rest).divide(ten)));
        next.set(j + 1, next.get(j + 1).add(parts.get(j).multiply(trips).divide(ten)));
      }
      parts = next;
    }
    long all = 0;
    for (int j = 0; j < k && j < parts.size(); j++) all += parts.get(j).longValue();
    return all;
  }
  public int compare(int law, int race) {
    if (law < -1 || law >= w.laws.size() || race < 0 || race > 3) return -1;
    List<Integer> line = line(w, law == -1 ? List.of() : w.laws.get(law), race);
    return line.isEmpty() ? -1 : line.get(0);
  }
  long s;
  int draw(int m) { s = (s * 1103 + 12345) % 1_000_003; return (int) (s % m); }
  public int centuries(int seed, int n) {
    if (seed < 0 || seed > 1_000_000 || n < 1 || n > 60) return no(-1);
    if (w.people.isEmpty()) return no(-3);
    World paper = w.copy();
    s = seed;
    int races = 0;
    for (int i = 0; i < n; i++) {
      if (paper.year == 999) break;
      int p = draw(paper.people.size()), race = draw(4), what = draw(4);
      if (what <= 1) doEnter(paper, p);
      if (what == 2 && doRace(paper, race) >= 0) races++;
      if (what == 3) doTake(paper, p);
      doPass(paper);
    }
    centuries = paper;
    return yes(races);
  }
  public int drawn(int person, int what) {
    if (centuries == null || person < 0 || person >= centuries.people.size()) return -1;
    Person p = centuries.people.get(person);
    return what == 0 ? p.trade : what == 1 ? p.prizes : what == 2 ? p.entered ? 1 : 0 : -1;
  }
  public int image(int k) {
    if (k < 0 || k > 1) return no(-1);
    images[k] = w.copy();
    return yes(0);
  }
  public int back(int k) {
    if (k < 0 || k > 1) return no(-1);
    if (images[k] == null) return no(-2);
    w = images[k].copy();
    undos.clear();
    return yes(0);
  }
  public int count(int what) {
    switch (what) {
      case 0: return w.people.size();
      case 1: return (int) w.people.stream().filter(p -> p.entered).count();
      case 2: return w.gap;
      case 3: return w.people.stream().mapToInt(p -> p.prizes).sum();
      case 4: return w.seen.size();
      case 5: return w.laws.size();
      case 6: return undos.size();
      case 7: return tape.size();
      case 8: case 9: case 10: case 11: case 12: return refusals.getOrDefault(new int[] {-1, -2, -3, -5, -6}[what - 8], 0);
      case 13: return w.force;
      case 14: return w.year;
      case 15: return w.trips;
      case 16: return w.mood;
      default: return -1;
    }
  }
  public int status() { return status; }
}
