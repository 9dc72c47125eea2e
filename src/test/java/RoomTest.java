import java.lang.management.ManagementFactory;

/** What runs of 512 calls make is counted: all of them live in one room, which is never cleared. */
public final class RoomTest {
  // The room has 7.3 million fields and elements; a run may want a small part of it.
  private static final long BYTES_MOST = 200_000;

  private static long bytes() {
    return ((com.sun.management.ThreadMXBean) ManagementFactory.getThreadMXBean()).getThreadAllocatedBytes(Thread.currentThread().getId());
  }

  private static NoSecond full() {
    NoSecond x = Support.isles(1, 2, 3, 4, 5, 6, 7);
    Support.rule(x, "runs strength * 7 % 10; turns trade + place if person > 2; wins place; bars if mood > 8");
    return x;
  }

  private static void word(NoSecond x, String four) {
    int n = 0;
    for (int i = 0; i < 4; i++) n = n << 8 | four.charAt(i);
    x.feed(n, 0x20202020, 0x20202020, 0x20202020, 0x20202020);
  }

  /** The most laws that can be made: the isles go back each time that there is no more room for one. */
  private static void laws() {
    NoSecond x = new NoSecond();
    x.image(0);
    for (int i = 0; i < 39; i++) {
      for (int j = 0; j < 6; j++) { word(x, "bars"); x.law(); }
      x.back(0);
    }
  }

  /** The longest laws. */
  private static void longLaws() {
    NoSecond x = new NoSecond();
    x.image(0);
    for (int i = 0; i < 23; i++) {
      Support.tape(x, "bars if " + "[1]+".repeat(49) + "1=1" + " ".repeat(193));
      x.law();
      if (i % 6 == 5) x.back(0);
    }
  }

  private static void questions(int which) {
    NoSecond x = full();
    for (int p = 0; p < 7; p++) x.enter(p);
    for (int i = 0; i < 470; i++) {
      switch (which) {
        case 0: x.ranking(i % 8); break;
        case 1: x.crowned(i % 5); break;
        case 2: x.heir(i % 7); break;
        case 3: x.centuries(i, 60); break;
        case 4: x.never(); break;
        case 5: x.be(i % 7, i % 4, i % 8, i % 2); break;
        case 6: x.look(i % 2); break;
        case 7: x.few(20, 99); x.ladder(60, 5); break;
        case 8: x.image(i % 2); x.back(i % 2); break;
        case 9: x.enter(i % 7); x.race(i % 4); x.undo(); break;
        case 10: Support.tape(x, "pass times 20;"); x.orders(); break;
        default: x.law(); x.orders(); x.row(); x.placed(0, 1);
      }
    }
  }

  private static void measured(String what, Runnable run) {
    run.run();
    long ahead = bytes();
    run.run();
    long made = bytes() - ahead;
    Support.so(what + " makes " + made + " bytes", made < BYTES_MOST);
  }

  public static void main(String[] args) {
    measured("laws", RoomTest::laws);
    measured("longLaws", RoomTest::longLaws);
    for (int which = 0; which <= 11; which++) {
      int k = which;
      measured("questions " + k, () -> questions(k));
    }
    Support.close("RoomTest");
  }
}
