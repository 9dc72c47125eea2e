import java.nio.charset.StandardCharsets;

/** What the tests share: checks that are counted, and texts put on a tape. */
final class Support {
  private static int wrong = 0;
  private static int checks = 0;

  static void due(String what, long got, long want) {
    checks++;
    if (got != want) { wrong++; if (wrong <= 40) System.out.println(what + " answered " + got + ", due is " + want); }
  }

  static void so(String what, boolean is) {
    checks++;
    if (!is) { wrong++; System.out.println("not so: " + what); }
  }

  static void close(String name) {
    System.out.println(name + ": " + checks + " checks, " + wrong + " wrong");
    if (wrong != 0 || checks == 0) System.exit(1);
  }

  /** The text alone is on the tape then. */
  static void tape(NoSecond x, String text) {
    byte[] bytes = text.getBytes(StandardCharsets.ISO_8859_1);
    x.end(0);
    for (int at = 0; at < bytes.length; at += 20) {
      int[] n = new int[5];
      for (int i = 0; i < 20; i++) n[i / 4] = n[i / 4] << 8 | (at + i < bytes.length ? bytes[at + i] & 255 : 32);
      x.feed(n[0], n[1], n[2], n[3], n[4]);
    }
    x.end(bytes.length);
  }

  static int law(NoSecond x, String text) { tape(x, text); return x.law(); }

  static int orders(NoSecond x, String text) { tape(x, text); return x.orders(); }

  static int row(NoSecond x, int... bytes) {
    StringBuilder b = new StringBuilder();
    for (int n : bytes) b.append((char) n);
    tape(x, b.toString());
    return x.row();
  }

  /** A law that is in force then. */
  static void rule(NoSecond x, String text) {
    int law = law(x, text);
    due("law \"" + text + "\" is read (fault " + x.fault() + ")", law >= 0 ? 1 : 0, 1);
    x.force(law);
  }

  /** People with these strengths for race 0. */
  static NoSecond isles(int... strengths) {
    NoSecond x = new NoSecond();
    for (int i = 0; i < strengths.length; i++) { x.person(0, -1); x.strength(i, 0, strengths[i]); }
    return x;
  }

  static String times(String s, int n) { return s.repeat(n); }
}
