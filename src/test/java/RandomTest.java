import java.lang.reflect.Method;
import java.lang.reflect.Modifier;
import java.nio.charset.StandardCharsets;
import java.util.ArrayList;
import java.util.List;
import java.util.Random;

/** Random runs of 512 calls, each answer compared with the Oracle's. */
public final class RandomTest {
  private static final Method[] FACE = face();
  private static final String[] OFTEN = {"of", "strength", "beats", "race", "enter", "take", "pass", "undo", "be", "seen", "force", "placed", "count"};
  private static Random random;
  private static Object[] both;
  private static StringBuilder log;
  private static int calls;
  private static boolean wrong;

  private static Method[] face() {
    List<Method> all = new ArrayList<>();
    for (Method m : NoSecond.class.getDeclaredMethods()) if (Modifier.isPublic(m.getModifiers())) all.add(m);
    all.sort((a, b) -> a.getName().compareTo(b.getName()));
    return all.toArray(new Method[0]);
  }

  private static Method named(String name) {
    for (Method m : FACE) if (m.getName().equals(name)) return m;
    throw new IllegalStateException(name);
  }

  private static long call(Method m, Object... args) throws Exception {
    if (wrong) return 0;
    calls++;
    Method other = Oracle.class.getDeclaredMethod(m.getName(), m.getParameterTypes());
    other.setAccessible(true);
    long got = ((Number) m.invoke(both[0], args)).longValue();
    long want = ((Number) other.invoke(both[1], args)).longValue();
    log.append(m.getName()).append(java.util.Arrays.toString(args)).append(" = ").append(want).append('\n');
    Support.due(m.getName() + java.util.Arrays.toString(args), got, want);
    if (got != want) {
      wrong = true;
      System.out.println("the run, with what is due:\n" + log + "(was " + got + ")");
    }
    return got;
  }

  private static int pick(int n) { return random.nextInt(n); }

  private static String pick(String... of) { return of[pick(of.length)]; }

  // ---- texts

  private static String blank() { return pick(8) == 0 ? "  " : " "; }

  private static String sum(boolean law, int deep) {
    StringBuilder b = new StringBuilder(part(law, deep));
    while (pick(3) == 0) b.append(blank()).append(pick("+", "-", "*", "/", "%", "*")).append(blank()).append(part(law, deep));
    return b.toString();
  }

  private static String part(boolean law, int deep) {
    int k = pick(10);
    if (k == 0 && deep < 9) return "[" + sum(law, deep + 1) + "]";
    if (k < 5) return String.valueOf(pick(6) == 0 ? pick(1002) : pick(10));
    if (law) return pick("person", "race", "strength", "trade", "prizes", "place", "gap", "year", "mood");
    String w = pick("year", "done", "latest", "gap", "entered", "prizes", "trade");
    return w.equals("prizes") || w.equals("trade") ? w + " " + pick(pick(20) == 0 ? 8 : 7) : w;
  }

  private static String test(boolean law, int deep) {
    StringBuilder b = new StringBuilder(plain(law, deep));
    while (pick(3) == 0) b.append(' ').append(pick("or", "and")).append(' ').append(plain(law, deep));
    return b.toString();
  }

  private static String plain(boolean law, int deep) {
    int k = pick(8);
    if (k == 0) return "not " + plain(law, deep);
    if (k == 1 && deep < 9) return "(" + test(law, deep + 1) + ")";
    return sum(law, deep) + " " + pick("<", ">", "=") + " " + sum(law, deep);
  }

  private static String clause(boolean law, int people) {
    StringBuilder b = new StringBuilder();
    if (law) {
      String verb = pick("runs", "turns", "wins", "bars", "runs", "turns");
      b.append(verb);
      if (!verb.equals("bars")) b.append(' ').append(sum(true, 0));
      if (verb.equals("bars") || pick(2) == 0) b.append(" if ").append(test(true, 0));
      return b.toString();
    }
    String verb = pick("race", "enter", "enter", "enter", "take", "pass");
    b.append(verb);
    if (!verb.equals("pass")) {
      int most = verb.equals("race") ? 4 : Math.max(1, people);
      b.append(' ').append(pick(3) == 0 ? "[" + sum(false, 1) + "] % " + most : pick(8) == 0 ? sum(false, 0) : String.valueOf(pick(most)));
    }
    if (pick(4) == 0) b.append(" times ").append(pick(4) == 0 ? pick(22) : 1 + pick(3));
    if (verb.equals("take") && pick(3) != 0) b.append(" if gap > 0");
    else if (verb.equals("race") && pick(3) != 0) b.append(" if entered > 0");
    else if (pick(3) == 0) b.append(" if ").append(test(false, 0));
    return b.toString();
  }

  private static String text(boolean law, int people) {
    int k = pick(40);
    if (k == 0) return " ".repeat(pick(30));
    if (k == 1) return (law ? "runs " : "race ") + "1+".repeat(48 + pick(4)) + "1";
    if (k == 2) return (law ? "bars;" : "enter 0;").repeat(10 + pick(3)) + (law ? "bars" : "enter 0");
    if (k == 3) { int n = 7 + pick(3); return (law ? "runs " : "enter ") + "[".repeat(n) + "1" + "]".repeat(n); }
    if (k == 4) { int n = 4 + pick(2); return (law ? "bars if " : "pass if ") + "(".repeat(n) + "[".repeat(4) + "1" + "]".repeat(4) + "=1" + ")".repeat(n); }
    StringBuilder b = new StringBuilder(clause(law, people));
    for (int i = pick(5); i > 0; i--) b.append(blank()).append(';').append(blank()).append(clause(law, people));
    if (pick(6) == 0 && b.length() > 0) {
      int at = pick(b.length());
      int how = pick(3);
      if (how == 0) b.deleteCharAt(at);
      else if (how == 1) b.setCharAt(at, (char) pick(256));
      else b.insert(at, pick("x", " ", "(", ")", "[", "]", ";", " if ", " not ", "1", " times 2 ", "+", "=", " or "));
    }
    if (b.length() > 400) b.setLength(380 + pick(21));
    return b.toString();
  }

  private static void feedBytes(byte[] bytes) throws Exception {
    if (((Oracle) both[1]).tape.size() > 0 && pick(8) != 0) call(named("end"), 0);
    int start = ((Oracle) both[1]).tape.size();
    for (int at = 0; at < bytes.length; at += 20) {
      Object[] n = new Object[5];
      for (int i = 0; i < 5; i++) {
        int v = 0;
        for (int j = 0; j < 4; j++) v = v << 8 | (at + 4 * i + j < bytes.length ? bytes[at + 4 * i + j] & 255 : 32);
        n[i] = v;
      }
      call(named("feed"), n);
    }
    if (pick(10) != 0) call(named("end"), start + bytes.length);
  }

  private static void someText(boolean law) throws Exception {
    feedBytes(text(law, ((Oracle) both[1]).w.people.size()).getBytes(StandardCharsets.ISO_8859_1));
    call(named(law == (pick(40) != 0) ? "law" : "orders"));
    call(named("fault"));
    if (pick(2) == 0) call(named("stopped"));
    if (law && pick(2) == 0) call(named("force"), pick(7) - 1);
  }

  private static void someRow() throws Exception {
    byte[] bytes = new byte[1 + pick(24)];
    for (int i = 0; i < bytes.length; i++) bytes[i] = (byte) (i % 5 == 0 ? pick(8) : pick(20) == 0 ? pick(256) : pick(10));
    feedBytes(bytes);
    call(named("row"));
    call(named("blots"));
  }

  // ---- calls

  private static int number() {
    int k = pick(30);
    if (k == 0) return random.nextInt();
    if (k == 1) return pick(2) == 0 ? Integer.MIN_VALUE : Integer.MAX_VALUE;
    if (k < 4) return pick(70) - 3;
    return k < 12 ? pick(11) - 1 : pick(5);
  }

  private static void someCall() throws Exception {
    Method m = pick(2) == 0 ? named(pick(OFTEN)) : FACE[pick(FACE.length)];
    String name = m.getName();
    if (name.equals("forget") && pick(4) != 0 || name.equals("terms") && pick(4) != 0 || name.equals("back") && pick(3) != 0) return;
    Object[] args = new Object[m.getParameterCount()];
    for (int i = 0; i < args.length; i++) args[i] = number();
    if (name.equals("person")) { args[0] = pick(10); if (pick(4) != 0) args[1] = pick(Math.max(1, ((Oracle) both[1]).w.people.size())) - (pick(3) == 0 ? 1 : 0); }
    if (name.equals("beats") && pick(5) != 0) { args[0] = pick(7); args[1] = pick(7); args[2] = pick(5) == 0 ? 0 : 1; }
    if (name.equals("strength") && pick(5) != 0) { args[0] = pick(7); args[1] = pick(4); args[2] = pick(10); }
    if (name.equals("be") && pick(5) != 0) { args[0] = pick(7); args[1] = pick(4); args[2] = 1 + pick(5); args[3] = pick(2); }
    if (name.equals("of") || name.equals("count") || name.equals("terms")) args[args.length - 1] = name.equals("terms") ? pick(11) : pick(19) - 1;
    if (name.equals("of") && pick(6) != 0) { args[0] = pick(7); args[1] = pick(16); }
    if (name.equals("terms")) { args[0] = pick(4); if (pick(3) == 0) { args[0] = 0; args[1] = 940 + pick(62); } }
    if (name.equals("image") || name.equals("back")) args[0] = pick(8) == 0 ? number() : pick(2);
    if (name.equals("placed") || name.equals("compare")) { args[0] = pick(5) - (name.equals("compare") ? 1 : 0); args[1] = pick(5); }
    if (name.equals("look") || name.equals("crowned")) args[0] = pick(6);
    if (name.equals("seen") && pick(4) != 0) { args[0] = pick(4); args[1] = pick(10); }
    if (name.equals("centuries")) { args[0] = pick(1_000_002); args[1] = pick(4) == 0 ? number() : 1 + pick(60); }
    if (name.equals("few")) { args[0] = pick(22); args[1] = pick(102); }
    if (name.equals("ladder")) { args[0] = pick(63); args[1] = pick(7); }
    call(m, args);
    if (name.equals("centuries")) for (int p = 0; p < 7; p++) call(named("drawn"), p, pick(3));
    if (pick(4) == 0) call(named("status"));
  }

  private static void run(long seed) throws Exception {
    random = new Random(seed);
    both = new Object[] {new NoSecond(), new Oracle()};
    log = new StringBuilder("seed " + seed + "\n");
    calls = 0;
    int people = pick(8);
    for (int i = 0; i < people; i++) call(named("person"), pick(10), pick(i + 1) - 1);
    for (int i = 0; i < people; i++) for (int r = 0; r < 4; r++) if (pick(2) == 0) call(named("strength"), i, r, pick(10));
    int quarrels = pick(3) == 0 ? 30 : 0;
    for (int i = 0; i < quarrels; i++) call(named("beats"), pick(7), pick(7), 1);
    if (pick(4) == 0) call(named("terms"), 0, 985 + pick(15));
    boolean wordy = pick(2) == 0;
    while (calls < 512 && !wrong) {
      int k = pick(wordy ? 12 : 40);
      if (k == 0) someText(true);
      else if (k < 3) someText(false);
      else if (k == 3) someRow();
      else someCall();
    }
    for (int what = 0; what < 17; what++) call(named("count"), what);
    for (int p = 0; p < 7; p++) for (int what = 0; what < 16; what++) call(named("of"), p, what);
  }

  public static void main(String[] args) throws Exception {
    long runs = Long.getLong("runs", 600);
    long from = Long.getLong("from", 0);
    for (long seed = from; seed < from + runs && !wrong; seed++) run(seed);
    Support.close("RandomTest");
  }
}
