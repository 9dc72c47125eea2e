import java.util.function.Supplier;
import java.util.function.ToIntFunction;

/** The boundaries that the document's promises name, promise by promise: just inside, just beyond, nothing, nobody. */
public final class BoundsPromisesTest {
  private static final int LEAST = Bounds.LEAST, MOST = Bounds.MOST;
  private static final int[] NOBODY_OF_THREE = {-1, 3, 6, 7, LEAST, MOST};
  private static final int[] NO_RACE = {-1, 4, LEAST, MOST};

  private static void sentence(String quote) { Bounds.sentence(quote); }

  private static void due(String what, long got, long want) { Bounds.due(what, got, want); }

  private static void refused(String what, Supplier<NoSecond> made, ToIntFunction<NoSecond> call, int by) { Bounds.refused(what, made, call, by); }

  private static void granted(String what, Supplier<NoSecond> made, ToIntFunction<NoSecond> call, int answer) { Bounds.granted(what, made, call, answer); }

  private static void toldNone(String what, ToIntFunction<NoSecond> call) { Bounds.toldNone(what, Bounds::rich, call); }

  /** With a text on the tape. */
  private static Supplier<NoSecond> with(String text) { return () -> { NoSecond x = Bounds.rich(); Support.tape(x, text); return x; }; }

  private static void newObject() {
    sentence("NoSecond(): Empty isles.");
    int[] counts = {0, 0, 0, 0, 0, 0, 0, 0, 0, 0, 0, 0, 0, -1, 0, 1, 0, -1};
    NoSecond x = new NoSecond();
    for (int what = 0; what < counts.length; what++) due("count(" + what + ")", x.count(what), counts[what]);
    due("status()", x.status(), 0);
    due("blots()", x.blots(), 0);
    due("fault()", x.fault(), -1);
    due("stopped()", x.stopped(), -1);
    due("of", x.of(0, 0), -1);
    due("placed: how many", x.placed(0, 0), 0);
    due("placed: who", x.placed(0, 1), -1);
    due("be", x.be(0, 0, 1, 0), -1);
    due("canBe()", x.canBe(), 0);
    due("look", x.look(0), -1);
    due("look", x.look(1), -1);
    due("ranking(0)", x.ranking(0), 0);
    due("ranking(1)", x.ranking(1), -1);
    due("circles()", x.circles(), 0);
    due("crowned(0)", x.crowned(0), 0);
    due("crowned(1)", x.crowned(1), 7);
    due("heir(NONE)", x.heir(-1), 0);
    due("heir(0)", x.heir(0), -1);
    due("never()", x.never(), 0);
    due("compare", x.compare(-1, 0), -1);
    due("drawn", x.drawn(0, 0), -1);
    due("forget()", x.forget(), 0);
    due("undo()", x.undo(), -3);
    due("back(0)", x.back(0), -2);
    due("back(1)", x.back(1), -2);
    due("pass()", x.pass(), 0);
    due("the other object is its own", new NoSecond().count(14), 0);
  }

  private static void person() {
    sentence("A PERSON with a TRADE, a PARENT (NONE: none): the number. -1 (no such PARENT, too); -5.");
    granted("no parent", Bounds::rich, x -> x.person(0, -1), 3);
    granted("the last one", Bounds::rich, x -> x.person(9, 2), 3);
    for (int parent : new int[] {3, 6, 7, -2, LEAST, MOST}) refused("parent " + parent, Bounds::rich, x -> x.person(0, parent), -1);
    for (int trade : new int[] {-1, 10, LEAST, MOST}) refused("trade " + trade, Bounds::rich, x -> x.person(trade, 0), -1);
    refused("no room", Bounds::seven, x -> x.person(0, -1), -5);
    refused("no room, with a parent", Bounds::seven, x -> x.person(9, 6), -5);
    refused("no room, no such trade", Bounds::seven, x -> x.person(10, 6), -1);
    refused("no room, no such parent", Bounds::seven, x -> x.person(9, 7), -1);
    NoSecond x = Bounds.seven();
    x.back(1);
    due("room again behind back()", x.person(4, 2), 3);
    due("her parent", x.of(3, 3), 2);
    due("she has nothing", x.of(3, 1) + x.of(3, 2) + x.of(3, 4) + x.of(3, 5) + x.of(3, 6) + x.of(3, 7), 0);
    for (int q = 0; q < 3; q++) due("she beats nobody, nobody beats her", x.beats(3, q, 0) + x.beats(q, 3, 0), 0);
  }

  private static void of() {
    sentence("Of a PERSON TRADE (what 0), PRIZES (1), whether ENTERED (2: 1, 0), the PARENT (3; NONE), STRENGTH for RACE r (4 + r), how she RUNS in RACE r (8 + r), whether BARRED from RACE r (12 + r: 1, 0). NONE.");
    NoSecond x = Bounds.rich();
    int[][] want = {{3, 4, 0, -1, 4, 1, 2, 3, 12, 3, 6, 9, 0, 0, 0, 0, -1}, {5, 2, 1, 0, 7, 0, 9, 2, 22, 1, 28, 7, 0, 0, 0, 0, -1}, {0, 0, 1, 0, 4, 4, 4, 4, 14, 14, 14, 14, 0, 0, 0, 1, -1}};
    for (int p = 0; p < 3; p++) for (int what = 0; what < 17; what++) due("of(" + p + ", " + what + ")", x.of(p, what), want[p][what]);
    due("the second's gap", x.count(2), 3);
    for (int p : NOBODY_OF_THREE) for (int what : new int[] {0, 3, 4, 8, 12}) toldNone("of(" + p + ", " + what + ")", y -> y.of(p, what));
    for (int what : new int[] {-1, 16, LEAST, MOST}) toldNone("of(0, " + what + ")", y -> y.of(0, what));
  }

  private static void strengthAndBeats() {
    sentence("STRENGTH for a RACE: what it was. -1; -2.");
    granted("the last person", Bounds::rich, x -> x.strength(2, 3, 9), 4);
    for (int p : NOBODY_OF_THREE) refused("person " + p, Bounds::rich, x -> x.strength(p, 0, 0), -2);
    for (int r : NO_RACE) refused("race " + r, Bounds::rich, x -> x.strength(0, r, 0), -1);
    for (int n : new int[] {-1, 10, LEAST, MOST}) refused("strength " + n, Bounds::rich, x -> x.strength(0, 0, n), -1);
    for (int p : NOBODY_OF_THREE) refused("person " + p + ", race 4", Bounds::rich, x -> x.strength(p, 4, 0), -1);

    sentence("BEATS, or not (1, 0): what it was. -1 (itself, too); -2.");
    granted("it was", Bounds::rich, x -> x.beats(0, 1, 0), 1);
    granted("it was", Bounds::rich, x -> x.beats(0, 1, 1), 1);
    granted("it was not", Bounds::rich, x -> x.beats(1, 0, 1), 0);
    granted("it was not", Bounds::rich, x -> x.beats(1, 0, 0), 0);
    for (int is : new int[] {-1, 2, LEAST, MOST}) refused("is " + is, Bounds::rich, x -> x.beats(0, 1, is), -1);
    for (int p = 0; p < 3; p++) { int q = p; refused("itself " + p, Bounds::rich, x -> x.beats(q, q, 0), -1); }
    for (int p : NOBODY_OF_THREE) {
      refused("one " + p, Bounds::rich, x -> x.beats(p, 0, 1), -2);
      refused("other " + p, Bounds::rich, x -> x.beats(0, p, 1), -2);
      refused("itself and nobody " + p, Bounds::rich, x -> x.beats(p, p, 1), -1);
      refused("nobody and is 2 " + p, Bounds::rich, x -> x.beats(p, 0, 2), -1);
    }
  }

  private static void placedAndTerms() {
    sentence("Of a RACE who is at PLACE 1 .. 7 (what 1 .. 7), how many run (0). NONE (nobody there).");
    NoSecond x = Support.isles(1, 2, 3, 4, 5, 6, 7);
    for (int n = 0; n <= 7; n++) {
      due("how many", x.placed(0, 0), n);
      for (int place = 1; place <= 7; place++) due("place " + place + " of " + n, x.placed(0, place), place <= n ? n - place : -1);
      due("place 8 of " + n, x.placed(0, 8), -1);
      x.enter(n);
    }
    for (int r : NO_RACE) for (int what : new int[] {0, 1}) toldNone("placed(" + r + ", " + what + ")", y -> y.placed(r, what));
    for (int what : new int[] {-1, 3, 7, 8, LEAST, MOST}) toldNone("placed(0, " + what + ")", y -> y.placed(0, what));

    sentence("A TERM: what it was. -1.");
    granted("year", Bounds::rich, y -> y.terms(0, 999), 1);
    granted("trips", Bounds::rich, y -> y.terms(1, 10), 1);
    granted("mood", Bounds::rich, y -> y.terms(2, 9), 4);
    int[][] wrong = {{0, -1}, {0, 1000}, {1, -1}, {1, 11}, {2, -1}, {2, 10}, {3, 0}, {-1, 0}, {MOST, 0}, {LEAST, 0}, {0, LEAST}, {0, MOST}};
    for (int[] w : wrong) refused("terms(" + w[0] + ", " + w[1] + ")", Bounds::rich, y -> y.terms(w[0], w[1]), -1);
  }

  private static void feedAndEnd() {
    sentence("Twenty bytes come behind the TAPE, four of each number, the highest first: how many it has. NONE, if there would be more than 400.");
    NoSecond x = Support.isles(0);
    due("twenty", x.feed(0x00010203, 0x04000506, 0x07080001, 0x01010100, 0x09090909), 20);
    due("by fives", x.row(), 4);
    due("the last five", x.of(0, 4) * 1000 + x.of(0, 5) * 100 + x.of(0, 6) * 10 + x.of(0, 7), 9999);
    due("the least and the most", x.feed(LEAST, MOST, -1, 0, 1), 20);
    due("bytes are 0 .. 255", x.row() * 10 + x.blots(), 13);
    for (int n = 20; n <= 400; n += 20) due("feed", x.feed(0, 0, 0, 0, 0), n);
    due("420 would be more", x.feed(0, 0, 0, 0, 0), -1);
    x.end(381);
    due("401 would be more", x.feed(0, 0, 0, 0, 0), -1);
    due("nothing came", x.count(7), 381);
    x.end(380);
    due("400 are not", x.feed(0, 0, 0, 0, 0), 400);
    Bounds.toldNone("no room", () -> { NoSecond y = Bounds.rich(); for (int i = 0; i < 19; i++) y.feed(1, 2, 3, 4, 5); y.end(395); return y; }, y -> y.feed(0, 0, 0, 0, 0));

    sentence("The TAPE has its first n bytes alone: n. NONE, if it has not so many, or n is below 0.");
    due("all", x.end(400), 400);
    due("one more", x.end(401), -1);
    due("one fewer", x.end(399), 399);
    due("no more so many", x.end(400), -1);
    due("one", x.end(1), 1);
    due("none", x.end(0), 0);
    due("none still", x.end(0), 0);
    due("not one", x.end(1), -1);
    for (int n : new int[] {-1, 17, 400, 401, LEAST, MOST}) toldNone("end(" + n + ")", y -> y.end(n));
    NoSecond z = Support.isles(0);
    z.feed(0x00010203, 0x04000506, 0x07080001, 0x01010100, 0x09090909);
    z.end(5);
    due("the first ones", z.row() * 10 + z.blots(), 10);
    due("she has them", z.of(0, 7), 4);
  }

  private static void rows() {
    sentence("A ROW, the TAPE is empty then: how many PEOPLE were told. -6 the TAPE is empty.");
    refused("empty", () -> { NoSecond x = Bounds.rich(); x.end(0); return x; }, NoSecond::row, -6);
    granted("one byte", () -> { NoSecond x = Bounds.rich(); x.end(1); return x; }, NoSecond::row, 0);
    granted("five", () -> { NoSecond x = Bounds.rich(); Support.tape(x, "\2\1\1\1\1"); return x; }, NoSecond::row, 1);
    NoSecond x = Bounds.rich();
    x.row();
    due("the tape is empty then", x.count(7), 0);
    due("so it is refused", x.row(), -6);
    due("and counted", x.count(12), 2);
    due("no people", Support.row(new NoSecond(), 0, 0, 0, 0, 0), 0);

    sentence("How many BLOTS the latest row() had that was not REFUSED (0 ahead of any).");
    NoSecond y = Support.isles(0);
    due("ahead of any", y.blots(), 0);
    due("refused", y.row(), -6);
    due("ahead of any that was not", y.blots(), 0);
    Support.row(y, 1, 0, 0, 0, 0, 0, 0, 0, 0, 0, 0);
    due("two", y.blots(), 2);
    due("refused", y.row(), -6);
    due("two still", y.blots(), 2);
    Support.row(y, 0, 0, 0, 0, 0);
    due("none", y.blots(), 0);
  }

  private static void law() {
    sentence("The TAPE, which is empty then, becomes a LAW: its number. -5 (ahead of reading it; the TAPE is empty then, too); -6 (blanks alone: FAULT at the end).");
    granted("a law", Bounds::rich, NoSecond::law, 1);
    NoSecond x = Bounds.rich();
    x.law();
    due("the tape is empty then", x.count(7), 0);
    due("none is in force by it", x.count(13), 0);
    due("an empty one", x.law(), -6);
    due("fault()", x.fault(), 0);
    Bounds.refusedText("empty", with(""), NoSecond::law, -6, 0, 1);
    Bounds.refusedText("a blank", with(" "), NoSecond::law, -6, 1, 1);
    Bounds.refusedText("400 blanks", with(" ".repeat(400)), NoSecond::law, -6, 400, 1);
    Bounds.refusedText("a fault", with("runs 1 runs"), NoSecond::law, -6, 7, 1);
    Bounds.refusedText("no room for a good one", () -> { NoSecond y = Bounds.crowded(); Support.tape(y, "bars"); return y; }, NoSecond::law, -5, -1, 1);
    Bounds.refusedText("no room for a wrong one", () -> { NoSecond y = Bounds.crowded(); Support.tape(y, "bars bars"); return y; }, NoSecond::law, -5, -1, 1);
    Bounds.refusedText("no room for blanks", () -> { NoSecond y = Bounds.crowded(); Support.tape(y, "  "); return y; }, NoSecond::law, -5, -1, 1);
    Bounds.refusedText("no room for none", () -> { NoSecond y = Bounds.crowded(); y.end(0); return y; }, NoSecond::law, -5, -1, 1);
    NoSecond z = Bounds.crowded();
    z.back(1);
    due("room again behind back()", Support.law(z, "runs 1"), 1);
  }

  private static void orders() {
    sentence("ORDERS, the TAPE is empty then: how many were run. -3 one can't be; -6 (as for law()).");
    granted("none is run", with("pass if 1 = 2"), NoSecond::orders, 0);
    granted("one", with("pass"), NoSecond::orders, 1);
    granted("the most", with("enter 0 times 20" + ";enter 0 times 20".repeat(11)), NoSecond::orders, 240);
    Bounds.refusedText("the last can't be", with("enter 0 times 20" + ";enter 0 times 20".repeat(10) + ";take 3"), NoSecond::orders, -3, -1, 11);
    Bounds.refusedText("the first can't be", with("take 3;pass"), NoSecond::orders, -3, -1, 0);
    Bounds.refusedText("empty", with(""), NoSecond::orders, -6, 0, -1);
    Bounds.refusedText("a blank", with(" "), NoSecond::orders, -6, 1, -1);
    Bounds.refusedText("400 blanks", with(" ".repeat(400)), NoSecond::orders, -6, 400, -1);
    Bounds.refusedText("a fault behind one that can't be", with("take 3;pass 1"), NoSecond::orders, -6, 12, -1);
    Bounds.refusedText("a law", with("bars"), NoSecond::orders, -6, 0, -1);
    NoSecond x = Bounds.rich();
    Support.orders(x, "pass");
    due("the tape is empty then", x.count(7), 0);
    due("they can be undone", x.undo(), 3);
  }

  private static void faultAndStopped() {
    sentence("FAULT of the latest law(), orders() that read a TEXT: its place; NONE without.");
    NoSecond x = Bounds.rich();
    due("of a law", x.fault(), 8);
    x.row();
    due("row() is none", x.fault(), 8);
    Support.orders(x, "pass");
    due("of good orders", x.fault(), -1);
    Support.orders(x, "pass pass");
    due("of orders", x.fault(), 5);
    Support.law(x, "bars");
    due("of a good law", x.fault(), -1);
    Support.law(x, "bars  bars");
    due("of a law", x.fault(), 6);
    for (int i = 2; i < 6; i++) Support.law(x, "bars");
    Support.orders(x, "pass;");
    due("of orders", x.fault(), 5);
    due("no room", Support.law(x, "bars"), -5);
    due("no text was read", x.fault(), 5);
    due("one can't be", Support.orders(x, "take 9"), -3);
    due("a text was read", x.fault(), -1);

    sentence("Which CLAUSE of the latest orders() could not be. NONE.");
    NoSecond y = Support.isles(0);
    due("ahead of any", y.stopped(), -1);
    Support.orders(y, "take 0");
    due("the first", y.stopped(), 0);
    Support.law(y, "bars bars");
    due("a law is none", y.stopped(), 0);
    Support.orders(y, "pass;".repeat(11) + "take 0");
    due("the twelfth", y.stopped(), 11);
    Support.orders(y, "pass");
    due("all could be", y.stopped(), -1);
    Support.orders(y, "enter 0 times 20;take 0 if 1 = 2;race 0 times 2");
    due("not one that is not run", y.stopped(), 2);
    Support.orders(y, "pass pass");
    due("a fault", y.stopped(), -1);
    Support.orders(y, "pass;race 0");
    y.orders();
    due("empty", y.stopped(), -1);
  }

  private static void force() {
    sentence("A LAW is in FORCE (NONE: none): which was. -2.");
    granted("none", Bounds::rich, x -> x.force(-1), 0);
    granted("the same", Bounds::rich, x -> x.force(0), 0);
    granted("none was", Bounds::empty, x -> x.force(-1), -1);
    granted("the last", Bounds::crowded, x -> x.force(5), 0);
    for (int law : new int[] {1, 5, 6, -2, LEAST, MOST}) refused("law " + law, Bounds::rich, x -> x.force(law), -2);
    refused("no law at all", Bounds::empty, x -> x.force(0), -2);
    NoSecond x = Bounds.crowded();
    x.force(5);
    due("it is", x.count(13), 5);
    x.back(1);
    due("as it was then", x.count(13), 0);
    due("no such law now", x.force(1), -2);
  }

  private static void moves() {
    sentence("A RACE: who is PLACE 1. -1; -3 nobody runs.");
    granted("race 0", Bounds::rich, x -> x.race(0), 1);
    granted("race 3", Bounds::rich, x -> x.race(3), 1);
    for (int r : NO_RACE) refused("race " + r, Bounds::rich, x -> x.race(r), -1);
    refused("nobody entered", () -> { NoSecond x = Bounds.rich(); x.enter(1); x.enter(2); return x; }, x -> x.race(0), -3);
    refused("the barred one alone", () -> { NoSecond x = Bounds.rich(); x.enter(1); return x; }, x -> x.race(3), -3);
    granted("she alone", () -> { NoSecond x = Bounds.rich(); x.enter(1); return x; }, x -> x.race(2), 2);
    refused("no people", Bounds::empty, x -> x.race(0), -3);
    refused("no people, no race", Bounds::empty, x -> x.race(-1), -1);

    sentence("To ENTER: whether she is then (1, 0). -2.");
    granted("in", Bounds::rich, x -> x.enter(0), 1);
    granted("out", Bounds::rich, x -> x.enter(2), 0);
    for (int p : NOBODY_OF_THREE) refused("person " + p, Bounds::rich, x -> x.enter(p), -2);
    refused("no people", Bounds::empty, x -> x.enter(0), -2);

    sentence("To TAKE: what the GAP was. -2; -3 it is 0.");
    granted("the gap", Bounds::rich, x -> x.take(0), 3);
    granted("the last person", Bounds::rich, x -> x.take(2), 3);
    for (int p : NOBODY_OF_THREE) refused("person " + p, Bounds::rich, x -> x.take(p), -2);
    refused("it is 0", () -> { NoSecond x = Bounds.rich(); x.take(0); return x; }, x -> x.take(0), -3);
    refused("nobody, it is 0", () -> { NoSecond x = Bounds.rich(); x.take(0); return x; }, x -> x.take(3), -2);

    sentence("A YEAR: how many TURNED. -3.");
    granted("nobody", Bounds::rich, NoSecond::pass, 0);
    granted("one", () -> { NoSecond x = Bounds.rich(); x.person(5, -1); return x; }, NoSecond::pass, 1);
    granted("in 998", () -> { NoSecond x = Bounds.rich(); x.terms(0, 998); return x; }, NoSecond::pass, 0);
    refused("in 999", () -> { NoSecond x = Bounds.rich(); x.person(5, -1); x.terms(0, 999); return x; }, NoSecond::pass, -3);
  }

  private static void undo() {
    sentence("The latest race(), enter(), take(), pass() (by ORDERS, too; 16 are kept) is undone: 0 .. 3. -3 there is none (nothing that was ahead of a person(), terms() that was not REFUSED can be undone).");
    int[] rich = {3, 1, 1, 0, 1, 1, 1};
    NoSecond x = Bounds.rich();
    for (int i = 0; i < rich.length; i++) {
      due("count(6)", x.count(6), rich.length - i);
      due("undo", x.undo(), rich[i]);
      due("status()", x.status(), 0);
    }
    due("all is as it was", x.of(0, 0) * 1000 + x.of(1, 0) * 100 + x.of(2, 0) * 10 + x.count(1) + x.count(2) + x.count(3) + x.count(14), 3590);
    refused("there is none", Bounds::empty, NoSecond::undo, -3);
    refused("none behind person()", () -> { NoSecond y = Bounds.rich(); y.person(0, -1); return y; }, NoSecond::undo, -3);
    refused("none behind terms()", () -> { NoSecond y = Bounds.rich(); y.terms(2, 4); return y; }, NoSecond::undo, -3);
    refused("none behind back()", () -> { NoSecond y = Bounds.rich(); y.back(1); return y; }, NoSecond::undo, -3);
    granted("some behind a refused person()", () -> { NoSecond y = Bounds.rich(); y.person(10, -1); return y; }, NoSecond::undo, 3);
    granted("some behind a refused terms()", () -> { NoSecond y = Bounds.rich(); y.terms(2, 10); return y; }, NoSecond::undo, 3);
    granted("some behind a refused back()", () -> { NoSecond y = Bounds.rich(); y.back(0); return y; }, NoSecond::undo, 3);
    granted("some behind image()", () -> { NoSecond y = Bounds.rich(); y.image(0); return y; }, NoSecond::undo, 3);
    granted("take is 2", () -> { NoSecond y = Bounds.rich(); y.take(0); return y; }, NoSecond::undo, 2);
    NoSecond w = Bounds.rich();
    w.take(0);
    w.enter(2);
    w.enter(0);
    w.race(0);
    Support.orders(w, "enter 2;race 1;pass");
    // What it was, then prizes, the gap, trades, the year, how many are entered.
    int[][] steps = {{3, 742, 3, 450, 1, 0}, {0, 740, 3, 450, 1, 1}, {1, 740, 3, 450, 1, 0}, {0, 720, 0, 350, 1, 2}, {1, 720, 0, 350, 1, 1}, {1, 720, 0, 350, 1, 2},
        {2, 420, 3, 350, 1, 2}, {3, 420, 3, 350, 0, 2}, {1, 420, 3, 350, 0, 1}, {1, 420, 3, 350, 0, 0}, {0, 0, 0, 359, 0, 3}, {1, 0, 0, 359, 0, 2}};
    for (int[] step : steps) {
      due("undo", w.undo(), step[0]);
      due("prizes", w.of(0, 1) * 100 + w.of(1, 1) * 10 + w.of(2, 1), step[1]);
      due("the gap", w.count(2), step[2]);
      due("trades", w.of(0, 0) * 100 + w.of(1, 0) * 10 + w.of(2, 0), step[3]);
      due("the year", w.count(14), step[4]);
      due("entered", w.count(1), step[5]);
    }
    for (int n = 15; n <= 18; n++) kept(n);
    for (int n : new int[] {31, 32, 33, 40}) kept(n);
    NoSecond z = Support.isles(1, 2);
    Support.orders(z, "pass;enter 0 times 5;pass times 12");
    due("by orders, too", z.count(6), 16);
    for (int i = 0; i < 12; i++) due("pass", z.undo(), 3);
    for (int i = 0; i < 4; i++) due("enter", z.undo(), 1);
    due("no more", z.undo(), -3);
    due("one year, one entry are left", z.count(14) * 10 + z.count(1), 11);
    refused("what was refused is none", () -> { NoSecond y = Support.isles(1); y.race(0); y.take(0); y.enter(4); Support.orders(y, "pass;take 0"); return y; }, NoSecond::undo, -3);
  }

  /** Of n entries the latest sixteen can be undone. */
  private static void kept(int n) {
    NoSecond x = Support.isles(0, 0, 0, 0, 0, 0, 0);
    for (int i = 0; i < n; i++) x.enter(i % 7);
    int left = Math.min(16, n);
    due("count(6) behind " + n, x.count(6), left);
    for (int i = 0; i < left; i++) due("undo " + i + " of " + n, x.undo(), 1);
    due("count(6) then", x.count(6), 0);
    due("no more of " + n, x.undo(), -3);
    for (int p = 0; p < 7; p++) due("person " + p + " behind " + n, x.of(p, 2), (n - left + 6 - p) / 7 % 2);
  }

  private static void be() {
    sentence("To BE at a PLACE: how many entries (what 0), whose, as bits (1). NONE (it can't be).");
    NoSecond x = Bounds.rich();
    due("as it is", x.be(1, 0, 1, 0), 0);
    due("as it is", x.be(1, 0, 1, 1), 0);
    due("one out", x.be(2, 0, 1, 0), 1);
    due("who", x.be(2, 0, 1, 1), 2);
    due("two out", x.be(0, 0, 1, 0), 2);
    due("who", x.be(0, 0, 1, 1), 6);
    toldNone("nobody is ahead", y -> y.be(1, 0, 2, 0));
    toldNone("nobody is ahead, whose", y -> y.be(1, 0, 2, 1));
    toldNone("two are ahead", y -> y.be(0, 0, 4, 0));
    due("two are ahead", x.be(0, 0, 3, 0), 0);
    toldNone("barred", y -> y.be(2, 3, 1, 0));
    toldNone("barred", y -> y.be(2, 3, 2, 1));
    for (int p : NOBODY_OF_THREE) toldNone("person " + p, y -> y.be(p, 0, 1, 0));
    for (int r : NO_RACE) toldNone("race " + r, y -> y.be(0, r, 1, 0));
    for (int place : new int[] {-1, 0, 7, 8, LEAST, MOST}) toldNone("place " + place, y -> y.be(0, 0, place, 0));
    for (int what : new int[] {-1, 2, LEAST, MOST}) toldNone("what " + what, y -> y.be(0, 0, 1, what));
  }

  private static void seen() {
    sentence("SEEN: how often there was. -1; -5.");
    granted("race 0, trade 0", Bounds::rich, x -> x.seen(0, 0), 2);
    granted("race 3, trade 9", Bounds::rich, x -> x.seen(3, 9), 2);
    for (int r : NO_RACE) refused("race " + r, Bounds::rich, x -> x.seen(r, 0), -1);
    for (int t : new int[] {-1, 10, LEAST, MOST}) refused("trade " + t, Bounds::rich, x -> x.seen(0, t), -1);
    refused("no room", Bounds::crowded, x -> x.seen(0, 0), -5);
    refused("no room, race 4", Bounds::crowded, x -> x.seen(4, 0), -1);
    refused("no room, trade -1", Bounds::crowded, x -> x.seen(0, -1), -1);

    sentence("SEEN is nothing then: how often there was.");
    NoSecond x = Bounds.crowded();
    x.terms(9, 9);
    due("six", x.forget(), 6);
    due("none", x.forget(), 0);
    due("count(4)", x.count(4), 0);
    due("status() is not touched", x.status(), -1);
    due("once again", x.seen(0, 0), 1);

    sentence("IT CAN BE, as bits.");
    NoSecond y = Support.isles(0, 0, 0, 0, 0, 0, 0);
    due("all of seven", y.canBe(), 127);
    Support.rule(y, "turns person; bars");
    for (int p = 0; p < 7; p++) {
      y.forget();
      y.seen(p % 4, p);
      due("she alone, barred or not", y.canBe(), 1 << p);
      y.seen(0, 9);
      due("nobody", y.canBe(), 0);
    }

    sentence("To LOOK at: the RACE (what 0), how many PEOPLE are left at most (1). NONE (none).");
    due("nobody can be", y.look(0), -1);
    due("nobody can be", y.look(1), -1);
    y.forget();
    due("one is left", y.look(1), 1);
    due("the lowest race", y.look(0), 0);
    for (int what : new int[] {-1, 2, LEAST, MOST}) toldNone("what " + what, z -> z.look(what));
    Bounds.toldNone("no people", Bounds::empty, z -> z.look(0));
    due("all alike of seven", Support.isles(0, 0, 0, 0, 0, 0, 0).look(1), 7);
  }

  private static void rankingAndCircles() {
    sentence("A RANKING: how many BEATS are broken (what 0), who is k-th (1 + k). NONE.");
    NoSecond x = new NoSecond();
    for (int n = 0; n <= 7; n++) {
      due("none broken of " + n, x.ranking(0), 0);
      for (int k = 0; k < n; k++) due("who", x.ranking(1 + k), k);
      due("nobody behind " + n, x.ranking(1 + n), -1);
      due("nobody far behind", x.ranking(MOST) + x.ranking(-1) + x.ranking(LEAST), -3);
      x.person(0, -1);
    }
    NoSecond y = Bounds.rich();
    due("one of a circle", y.ranking(0), 1);
    due("the first row", y.ranking(1) * 100 + y.ranking(2) * 10 + y.ranking(3), 12);
    for (int what : new int[] {-1, 4, LEAST, MOST}) toldNone("what " + what, z -> z.ranking(what));

    sentence("CIRCLES.");
    due("a circle", y.circles(), 1);
    due("nobody", new NoSecond().circles(), 0);
  }

  private static void crownedAndHeirs() {
    sentence("CROWNED: how they RUN together (what 0), who in RACE r (1 + r; 7: nobody). NONE.");
    NoSecond x = Bounds.rich();
    due("together", x.crowned(0), 12 + 14 + 28);
    due("who", x.crowned(1) * 1000 + x.crowned(2) * 100 + x.crowned(3) * 10 + x.crowned(4), 217);
    for (int what : new int[] {-1, 5, LEAST, MOST}) toldNone("what " + what, y -> y.crowned(what));
    NoSecond none = new NoSecond();
    for (int r = 0; r < 4; r++) due("nobody", none.crowned(1 + r), 7);
    due("no race", none.crowned(5), -1);

    sentence("The LINE: how many (i NONE), who is the i-th. NONE.");
    due("how many", x.heir(-1), 2);
    due("the first", x.heir(0), 0);
    due("the last", x.heir(1), 1);
    for (int i : new int[] {2, 6, 7, -2, LEAST, MOST}) toldNone("i " + i, y -> y.heir(i));
    due("nobody", none.heir(-1), 0);
    due("nobody", none.heir(0), -1);
  }

  private static void ladderAndFew() {
    sentence("LADDERS, n 1 .. 60, k 1 .. 5. NONE.");
    NoSecond x = Bounds.rich();
    due("least", x.ladder(1, 1), 1);
    due("most", x.ladder(60, 5), 106799928449301153L);
    due("no way up", x.ladder(60, 1), 0);
    for (int n : new int[] {0, 61, -1, LEAST, MOST}) for (int k = 1; k <= 5; k += 4) { int m = k; toldNone("n " + n, y -> (int) y.ladder(n, m)); }
    for (int k : new int[] {0, 6, -1, LEAST, MOST}) for (int n = 1; n <= 60; n += 59) { int m = n; toldNone("k " + k, y -> (int) y.ladder(m, k)); }

    sentence("FEW, k 1 .. 20, n 0 .. 99. NONE.");
    due("least", x.few(1, 0), 1000000000000L);
    due("most", x.few(20, 99), 998255635351L);
    due("k 1, n 99", x.few(1, 99), 29512660L);
    due("k 20, n 0", x.few(20, 0), 1000000000000L);
    for (int k : new int[] {0, 21, -1, LEAST, MOST}) for (int n = 0; n <= 99; n += 99) { int m = n; toldNone("k " + k, y -> (int) y.few(k, m)); }
    for (int n : new int[] {-1, 100, LEAST, MOST}) for (int k = 1; k <= 20; k += 19) { int m = k; toldNone("n " + n, y -> (int) y.few(m, n)); }
  }

  private static void neverAndCompare() {
    sentence("NEVER, as bits.");
    due("nobody", new NoSecond().never(), 0);
    NoSecond x = Support.isles(0, 0, 0, 0, 0, 0, 0);
    due("the first alone", x.never(), 1);
    Support.rule(x, "bars");
    due("all of seven", x.never(), 127);

    sentence("COMPARED. NONE (no such LAW, RACE; nobody runs).");
    NoSecond y = Bounds.rich();
    due("none", y.compare(-1, 0), 1);
    due("the law", y.compare(0, 3), 1);
    for (int law : new int[] {1, 5, 6, -2, LEAST, MOST}) toldNone("law " + law, z -> z.compare(law, 0));
    for (int r : NO_RACE) for (int law = -1; law < 1; law++) { int n = law; toldNone("race " + r, z -> z.compare(n, r)); }
    Bounds.toldNone("nobody runs", () -> { NoSecond z = Bounds.rich(); z.enter(1); z.enter(2); return z; }, z -> z.compare(-1, 0));
    Bounds.toldNone("only the barred one", () -> { NoSecond z = Bounds.rich(); z.enter(1); return z; }, z -> z.compare(0, 3));
    y.enter(1);
    due("not barred without", y.compare(-1, 3), 2);
    Bounds.toldNone("no people", Bounds::empty, z -> z.compare(-1, 0));
  }

  private static void centuries() {
    sentence("CENTURIES, kept as the latest: how many RACES there were. -1; -3 there are no PEOPLE.");
    NoSecond one = Support.isles(0);
    due("one person", one.centuries(0, 60), 9);
    granted("the least", Bounds::rich, x -> x.centuries(0, 1), 0);
    for (int n : new int[] {0, 61, LEAST, MOST}) refused("n " + n, Bounds::rich, x -> x.centuries(0, n), -1);
    for (int s : new int[] {-1, 1000001, LEAST, MOST}) refused("seed " + s, Bounds::rich, x -> x.centuries(s, 60), -1);
    refused("no people", Bounds::empty, x -> x.centuries(0, 1), -3);
    refused("no people, n 60", Bounds::empty, x -> x.centuries(1000000, 60), -3);
    refused("no people, n 61", Bounds::empty, x -> x.centuries(0, 61), -1);
    granted("in 999", () -> { NoSecond x = Bounds.rich(); x.terms(0, 999); return x; }, x -> x.centuries(0, 60), 0);

    sentence("Behind the latest CENTURIES of a PERSON TRADE (what 0), PRIZES (1), whether ENTERED (2: 1, 0). NONE.");
    due("trade", one.drawn(0, 0), 0);
    due("prizes", one.drawn(0, 1), 27);
    due("entered", one.drawn(0, 2), 0);
    due("what 3", one.drawn(0, 3), -1);
    one.centuries(0, 59);
    due("the latest", one.drawn(0, 2), 1);
    one.centuries(0, 61);
    due("not one that was refused", one.drawn(0, 2), 1);
    for (int p : NOBODY_OF_THREE) toldNone("person " + p, x -> x.drawn(p, 0));
    for (int what : new int[] {-1, 3, LEAST, MOST}) toldNone("what " + what, x -> x.drawn(0, what));
    Bounds.toldNone("ahead of any", () -> { NoSecond x = Support.isles(1); x.centuries(0, 0); return x; }, x -> x.drawn(0, 0));
    one.person(0, -1);
    due("one who was not there yet", one.drawn(1, 0), -1);
    one.centuries(0, 1);
    due("one who is there now", one.drawn(1, 0), 1);
  }

  private static void images() {
    sentence("IMAGE k is kept: 0; -1.");
    for (int k : new int[] {-1, 2, LEAST, MOST}) refused("image " + k, Bounds::rich, x -> x.image(k), -1);
    for (int k = 0; k < 2; k++) { int n = k; granted("image " + k, Bounds::rich, x -> x.image(n), 0); }

    sentence("BACK to IMAGE k: 0. -1; -2 it was not kept.");
    for (int k : new int[] {-1, 2, LEAST, MOST}) refused("back " + k, Bounds::rich, x -> x.back(k), -1);
    refused("not kept", Bounds::rich, x -> x.back(0), -2);
    refused("none was kept", Bounds::empty, x -> x.back(1), -2);
    granted("kept", Bounds::rich, x -> x.back(1), 0);
    granted("an image of nothing", () -> { NoSecond x = new NoSecond(); x.image(0); x.person(0, -1); return x; }, x -> x.back(0), 0);
    NoSecond x = new NoSecond();
    x.image(0);
    x.person(0, -1);
    x.image(1);
    x.person(0, -1);
    due("images stay", x.back(1), 0);
    due("one", x.count(0), 1);
    due("images stay", x.back(0), 0);
    due("none", x.count(0), 0);
    due("images stay", x.back(1), 0);
    due("one", x.count(0), 1);
    x.person(0, -1);
    x.image(1);
    x.back(0);
    x.back(1);
    due("the latest image", x.count(0), 2);
    x.strength(0, 0, 7);
    x.enter(1);
    x.back(1);
    due("an image is not touched", x.of(0, 4) + x.of(1, 2), 0);
  }

  private static void count() {
    sentence("0 PEOPLE, 1 ENTERED, 2 the GAP, 3 all PRIZES, 4 SEEN, 5 LAWS, 6 how many can be undone, 7 bytes of the TAPE, 8 .. 12 how many calls were REFUSED by -1, -2, -3, -5, -6 (IMAGES do not keep that), 13 the LAW in FORCE, 14 .. 16 TERMS 0 .. 2. NONE for others.");
    NoSecond x = Bounds.rich();
    int[] want = {3, 2, 3, 6, 1, 1, 7, 16, 0, 0, 1, 0, 1, 0, 1, 1, 4, -1};
    for (int what = 0; what < want.length; what++) due("count(" + what + ")", x.count(what), want[what]);
    for (int what : new int[] {-1, 17, LEAST, MOST}) toldNone("count(" + what + ")", y -> y.count(what));
    NoSecond y = Bounds.rich();
    for (int i = 0; i < 3; i++) y.terms(9, 9);
    for (int i = 0; i < 4; i++) y.enter(9);
    y.image(0);
    for (int i = 0; i < 5; i++) y.race(9);
    int[] refusals = {8, 4, 1, 0, 1};
    for (int i = 0; i < 5; i++) due("count(" + (8 + i) + ")", y.count(8 + i), refusals[i]);
    y.back(0);
    for (int i = 0; i < 5; i++) due("images do not keep that", y.count(8 + i), refusals[i]);
  }

  private static void status() {
    sentence("What the latest call of person, strength, beats, terms, row, law, orders, force, race, enter, take, pass, undo, seen, centuries, image, back was REFUSED by; 0 if it was not, or ahead of any.");
    due("ahead of any", new NoSecond().status(), 0);
    NoSecond x = Support.isles(4, 5);
    due("behind a good one", x.status(), 0);
    int[] refusals = {x.person(10, -1), x.status(), x.strength(2, 0, 0), x.status(), x.beats(0, 0, 0), x.status(), x.terms(3, 0), x.status(), x.row(), x.status(),
        x.law(), x.status(), x.orders(), x.status(), x.force(0), x.status(), x.race(0), x.status(), x.enter(2), x.status(), x.take(0), x.status(),
        x.undo(), x.status(), x.seen(4, 0), x.status(), x.centuries(0, 0), x.status(), x.image(2), x.status(), x.back(0), x.status()};
    int[] want = {-1, -2, -1, -1, -6, -6, -6, -2, -3, -2, -3, -3, -1, -1, -1, -2};
    for (int i = 0; i < want.length; i++) {
      due("refused " + i, refusals[2 * i], want[i]);
      due("status() " + i, refusals[2 * i + 1], want[i]);
    }
    good(x);
    others();
  }

  /** Each good call of these makes it 0 again. */
  private static void good(NoSecond x) {
    x.terms(0, 5);
    for (int i = 0; i < 17; i++) {
      x.image(9);
      due("refused ahead of good call " + i, x.status(), -1);
      Support.tape(x, i == 4 ? "x" : i == 5 ? "runs 8" : "pass");
      due("the tape does not touch it", x.status(), -1);
      switch (i) {
        case 0: x.person(0, -1); break;
        case 1: x.strength(0, 0, 3); break;
        case 2: x.beats(0, 1, 1); break;
        case 3: x.terms(1, 2); break;
        case 4: x.row(); break;
        case 5: x.law(); break;
        case 6: x.orders(); break;
        case 7: x.force(0); break;
        case 8: x.enter(0); break;
        case 9: x.race(0); break;
        case 10: x.pass(); break;
        case 11: x.undo(); break;
        case 12: x.seen(0, 0); break;
        case 13: x.centuries(0, 1); break;
        case 14: x.image(0); break;
        case 15: x.back(0); break;
        default: for (int p = 0; p < 2; p++) x.enter(p); x.race(0); x.image(9); x.take(0);
      }
      due("status() behind good call " + i, x.status(), 0);
    }
  }

  /** Calls that are not in that list leave it as it is, whatever they tell. */
  private static void others() {
    NoSecond x = Support.isles(4, 5);
    x.terms(0, 1000);
    long sum = x.of(9, 9) + x.placed(9, 9) + x.feed(0, 0, 0, 0, 0) + x.end(99) + x.end(0) + x.blots() + x.fault() + x.stopped() + x.be(9, 9, 9, 9) + x.forget()
        + x.canBe() + x.look(9) + x.ranking(9) + x.circles() + x.crowned(9) + x.heir(9) + x.ladder(0, 0) + x.never() + x.few(0, 0) + x.compare(9, 9) + x.drawn(9, 9) + x.count(99);
    due("they were asked", sum > 0 ? 1 : 0, 1);
    due("status() stays", x.status(), -1);
    due("they are not counted", x.count(8) * 10000 + x.count(9) * 1000 + x.count(10) * 100 + x.count(11) * 10 + x.count(12), 10000);
    x.terms(0, 1);
    x.of(9, 9);
    x.end(-1);
    x.compare(9, 9);
    due("status() stays 0", x.status(), 0);
  }

  /** As many calls as an object is promised for. */
  private static void longest() {
    NoSecond x = Support.isles(1, 2, 3);
    int calls = 6;
    for (int i = 0; calls < 511; i++, calls++) due("call " + calls, x.enter(i % 3), i / 3 % 2 == 0 ? 1 : 0);
    due("the 512th call", x.count(6), 16);
    NoSecond y = new NoSecond();
    for (int i = 1; i <= 511; i++) due("call " + i, y.back(2), -1);
    due("the 512th call", y.count(8), 511);
  }

  public static void main(String[] args) throws Exception {
    newObject(); person(); of(); strengthAndBeats(); placedAndTerms(); feedAndEnd(); rows(); law(); orders(); faultAndStopped(); force(); moves(); undo();
    be(); seen(); rankingAndCircles(); crownedAndHeirs(); ladderAndFew(); neverAndCompare(); centuries(); images(); count(); status(); longest();
    Bounds.close("BoundsPromisesTest", "## Promise 1:", "## Not promised");
  }
}
