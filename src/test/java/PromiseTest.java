/** At least one test for each promise of the document: ordinary inputs, its edges, wrong inputs. */
public final class PromiseTest {
  private static final int LEAST = Integer.MIN_VALUE, MOST = Integer.MAX_VALUE;

  private static void due(String what, long got, long want) { Support.due(what, got, want); }

  /** The fault of a text, and that it is refused; NONE: it is read. */
  private static void fault(boolean law, String text, int at) {
    NoSecond x = new NoSecond();
    for (int i = 0; i < 7; i++) x.person(0, -1);
    int told = law ? Support.law(x, text) : Support.orders(x, text);
    due((law ? "law \"" : "orders \"") + text + "\" is refused", told == -6 ? 1 : 0, at == -1 ? 0 : 1);
    due("fault of \"" + text + "\"", x.fault(), at);
    due("the tape behind \"" + text + "\"", x.count(7), 0);
  }

  /** How person 0 runs in race 1 by "runs SUM"; 6 is her strength, so what a broken sum leaves. */
  private static void runs(String rest, int want) {
    NoSecond x = Support.isles(0, 0);
    x.strength(0, 1, 6);
    x.terms(2, 7);
    x.terms(0, 900);
    Support.rule(x, "runs " + rest);
    due("runs " + rest, x.of(0, 9), want);
  }

  private static void newObject() {
    NoSecond x = new NoSecond();
    int[] want = {0, 0, 0, 0, 0, 0, 0, 0, 0, 0, 0, 0, 0, -1, 0, 1, 0};
    for (int what = 0; what < want.length; what++) due("1 count(" + what + ")", x.count(what), want[what]);
    due("1 NONE", NoSecond.NONE, -1);
    due("1 status", x.status(), 0);
    due("1 fault", x.fault(), -1);
    due("1 stopped", x.stopped(), -1);
    due("1 blots", x.blots(), 0);
    due("1 undo", x.undo(), -3);
    due("1 back", x.back(0), -2);
    due("1 drawn", x.drawn(0, 0), -1);
  }

  private static void person() {
    NoSecond x = new NoSecond();
    due("2 no such parent", x.person(0, 0), -1);
    due("2 status", x.status(), -1);
    due("2 trade 10", x.person(10, -1), -1);
    due("2 trade -1", x.person(-1, -1), -1);
    due("2 first", x.person(9, -1), 0);
    due("2 status", x.status(), 0);
    due("2 itself as parent", x.person(0, 1), -1);
    due("2 parent -2", x.person(0, -2), -1);
    for (int i = 1; i < 7; i++) due("2 next", x.person(i, i - 1), i);
    due("2 no room", x.person(0, -1), -5);
    due("2 no room, no trade", x.person(10, -1), -1);
    due("2 no room, no parent", x.person(0, 7), -1);
    due("2 count", x.count(0), 7);
    due("2 counted -1", x.count(8), 7);
    due("2 counted -5", x.count(11), 1);
    x.enter(0);
    due("2 undo stays behind a refused person()", x.person(0, 9), -1);
    due("2 undo", x.count(6), 1);
  }

  private static void of() {
    NoSecond x = new NoSecond();
    x.person(3, -1);
    x.person(4, 0);
    for (int r = 0; r < 4; r++) x.strength(1, r, r + 5);
    x.enter(1);
    Support.rule(x, "runs strength * 9 + race ; bars if race = 2 and person = 1");
    int[] want = {4, 0, 1, 0, 5, 6, 7, 8, 45, 55, 65, 75, 0, 0, 1, 0, -1};
    for (int what = 0; what < want.length; what++) due("3 of(1, " + what + ")", x.of(1, what), want[what]);
    due("3 no parent", x.of(0, 3), -1);
    due("3 no barred", x.of(0, 14), 0);
    due("3 what -1", x.of(0, -1), -1);
    due("3 what least", x.of(0, LEAST), -1);
    due("3 what most", x.of(0, MOST), -1);
    due("3 no such", x.of(2, 0), -1);
    due("3 no such", x.of(-1, 0), -1);
    due("3 status is not touched", x.status(), 0);
    due("3 not counted", x.count(8) + x.count(9), 0);
  }

  private static void strength() {
    NoSecond x = Support.isles(3);
    due("4 was", x.strength(0, 0, 9), 3);
    due("4 was", x.strength(0, 3, 1), 0);
    due("4 is", x.of(0, 4), 9);
    due("4 is", x.of(0, 7), 1);
    due("4 race 4", x.strength(0, 4, 0), -1);
    due("4 race -1", x.strength(0, -1, 0), -1);
    due("4 n -1", x.strength(0, 0, -1), -1);
    due("4 n 10, nobody", x.strength(1, 0, 10), -1);
    due("4 nobody", x.strength(1, 0, 0), -2);
    due("4 nobody", x.strength(-1, 0, 0), -2);
    due("4 nobody", x.strength(LEAST, 0, 0), -2);
    due("4 status", x.status(), -2);
    due("4 still", x.of(0, 4), 9);
  }

  private static void beats() {
    NoSecond x = Support.isles(0, 0, 0);
    due("5 was not", x.beats(0, 1, 1), 0);
    due("5 was", x.beats(0, 1, 1), 1);
    due("5 not the other way", x.beats(1, 0, 0), 0);
    due("5 both ways", x.beats(1, 0, 1), 0);
    due("5 still", x.beats(0, 1, 0), 1);
    due("5 was not", x.beats(0, 1, 0), 0);
    due("5 the other way stays", x.beats(1, 0, 0), 1);
    due("5 itself", x.beats(1, 1, 1), -1);
    due("5 itself, nobody", x.beats(9, 9, 1), -1);
    due("5 is 2", x.beats(0, 9, 2), -1);
    due("5 is -1", x.beats(0, 1, -1), -1);
    due("5 nobody", x.beats(0, 3, 1), -2);
    due("5 nobody", x.beats(-1, 0, 1), -2);
    due("5 status", x.status(), -2);
  }

  private static void placed() {
    NoSecond x = Support.isles(4, 9, 4, 0, 9, 2, 7);
    due("6 nobody", x.placed(0, 0), 0);
    due("6 nobody", x.placed(0, 1), -1);
    for (int p = 0; p < 7; p++) x.enter(p);
    int[] line = {7, 1, 4, 6, 0, 2, 5, 3};
    for (int what = 0; what < 8; what++) due("6 placed(0, " + what + ")", x.placed(0, what), line[what]);
    for (int what = 1; what < 8; what++) due("6 alike", x.placed(1, what), what - 1);
    due("6 what 8", x.placed(0, 8), -1);
    due("6 what -1", x.placed(0, -1), -1);
    due("6 race 4", x.placed(4, 0), -1);
    due("6 race -1", x.placed(-1, 0), -1);
    Support.rule(x, "bars if person < 3; runs person");
    due("6 barred", x.placed(2, 0), 4);
    due("6 by law", x.placed(2, 1), 6);
    due("6 by law", x.placed(2, 4), 3);
    due("6 nobody there", x.placed(2, 5), -1);
  }

  private static void terms() {
    NoSecond x = new NoSecond();
    due("7 year", x.terms(0, 999), 0);
    due("7 trips", x.terms(1, 10), 1);
    due("7 mood", x.terms(2, 9), 0);
    due("7 year", x.terms(0, 0), 999);
    due("7 trips", x.terms(1, 0), 10);
    due("7 mood", x.terms(2, 0), 9);
    int[][] wrong = {{0, 1000}, {0, -1}, {1, 11}, {1, -1}, {2, 10}, {2, -1}, {3, 0}, {-1, 0}, {MOST, 0}, {LEAST, 1}};
    for (int[] w : wrong) due("7 terms(" + w[0] + ", " + w[1] + ")", x.terms(w[0], w[1]), -1);
    due("7 counted", x.count(8), wrong.length);
    due("7 status", x.status(), -1);
  }

  private static void feedAndEnd() {
    NoSecond x = new NoSecond();
    for (int n = 20; n <= 400; n += 20) due("8 feed", x.feed(1, 2, 3, 4, 5), n);
    due("8 full", x.feed(1, 2, 3, 4, 5), -1);
    due("8 still", x.count(7), 400);
    due("9 more than there are", x.end(401), -1);
    due("9 below 0", x.end(-1), -1);
    due("9 all", x.end(400), 400);
    due("9 fewer", x.end(381), 381);
    due("8 no room for twenty", x.feed(1, 2, 3, 4, 5), -1);
    due("9 fewer", x.end(380), 380);
    due("8 just room", x.feed(1, 2, 3, 4, 5), 400);
    due("9 none", x.end(0), 0);
    due("9 none are left", x.end(1), -1);
    due("8 status is not touched", x.status(), 0);
    x.person(0, -1);
    x.feed(0x00010203, 0x04000506, 0x07080000, 0, 0);
    x.end(10);
    due("8 the highest byte first", x.row(), 2);
    for (int r = 0; r < 4; r++) due("8 bytes", x.of(0, 4 + r), r + 5);
  }

  private static void row() {
    NoSecond x = Support.isles(0, 0);
    due("10 empty", x.row(), -6);
    due("10 status", x.status(), -6);
    due("10 one", Support.row(x, 1, 9, 8, 7, 6), 1);
    due("11 none", x.blots(), 0);
    due("10 strength", x.of(1, 4), 9);
    due("10 strength", x.of(1, 7), 6);
    due("10 blots alone", Support.row(x, 2, 0, 0, 0, 0, 1, 0, 0, 10, 0, 1, 0, 0, 0), 0);
    due("11 three", x.blots(), 3);
    due("10 a blot is nothing", x.of(1, 4), 9);
    due("10 tape", x.count(7), 0);
    due("10 empty", x.row(), -6);
    due("11 as the latest that was not refused", x.blots(), 3);
    due("10 a great byte", Support.row(x, 255, 0, 0, 0, 0, 0, 0, 0, 0, 255, 0, 1, 2, 3, 4), 1);
    due("11 two", x.blots(), 2);
    due("10 the last one stands", Support.row(x, 0, 5, 5, 5, 5, 0, 6, 6, 6, 6), 2);
    due("10 strength", x.of(0, 5), 6);
    due("11 none", x.blots(), 0);
    due("10 status", x.status(), 0);
  }

  private static void law() {
    NoSecond x = Support.isles(0);
    due("12 empty", x.law(), -6);
    due("14 empty", x.fault(), 0);
    for (int i = 0; i < 6; i++) {
      due("12 law", Support.law(x, "runs " + i), i);
      due("14 none", x.fault(), -1);
    }
    Support.tape(x, "runs runs");
    due("12 no room", x.law(), -5);
    due("12 the tape", x.count(7), 0);
    due("14 no text was read", x.fault(), -1);
    due("12 no room, empty", x.law(), -5);
    due("12 counted", x.count(11), 2);
    due("12 count", x.count(5), 6);
    fault(true, "", 0);
    fault(true, "     ", 5);
    fault(true, "runs", 4);
    fault(true, "runs  ", 6);
    fault(true, "runs1", -1);
    fault(true, "runs0001000", -1);
    fault(true, "runs 1001", 5);
    fault(true, "runs 99999999999999999999999", 5);
    fault(true, "Runs 1", 0);
    fault(true, "run 1", 0);
    fault(true, "runss 1", 0);
    fault(true, "runs 1 2", 7);
    fault(true, "runs -1", 5);
    fault(true, "runs 1;", 7);
    fault(true, "runs 1; ", 8);
    fault(true, "; runs 1", 0);
    fault(true, "bars", -1);
    fault(true, "bars 1", 5);
    fault(true, "bars times 2", 5);
    fault(true, "bars if", 7);
    fault(true, "bars if 1", 9);
    fault(true, "bars if 1 = 1", -1);
    fault(true, "bars if 1 = 1 = 1", 14);
    fault(true, "bars if (1) = 1", 10);
    fault(true, "bars if [1] = 1", -1);
    fault(true, "bars if not [1] = 1 or not not (2<3) and 1>2", -1);
    fault(true, "bars if not", 11);
    fault(true, "runs (1)", 5);
    fault(true, "runs [1", 7);
    fault(true, "runs [1)", 7);
    fault(true, "runs []", 6);
    fault(true, "runs 1 + ", 9);
    fault(true, "runs 1 + * 2", 9);
    fault(true, "runs person+race+strength+trade+prizes+place+gap+year+mood", -1);
    fault(true, "runs done", 5);
    fault(true, "runs entered", 5);
    fault(true, "runs prizes 1", 12);
    fault(true, "race 1", 0);
    fault(true, "turns 1 if 1 < 2; wins 2 if 2 > 1; bars if 1=2;runs 3", -1);
    fault(true, "runs 1" + (char) 233, 6);
    fault(true, "runs\t1", 4);
    fault(true, "runs 1 if 1=1 if 1=1", 14);
    fault(true, "bars;".repeat(11) + "bars", -1);
    fault(true, "bars;".repeat(12) + "bars", 60);
    fault(true, "bars;".repeat(12) + "  1", 62);
    fault(true, "bars;".repeat(12), 60);
    fault(true, "runs " + "1+".repeat(49) + "1", -1);
    fault(true, "runs " + "1+".repeat(50) + "1", 105);
    fault(true, "runs " + "1+".repeat(40) + "1; bars if " + "[gap]*".repeat(8) + "1=1", 85 + 7 + 8 + 48 + 2 - 4);
    fault(true, "runs " + "[".repeat(8) + "1" + "]".repeat(8), -1);
    fault(true, "runs " + "[".repeat(9) + "1" + "]".repeat(9), 13);
    fault(true, "bars if " + "(".repeat(4) + "[".repeat(4) + "1" + "]".repeat(4) + "=1" + ")".repeat(4), -1);
    fault(true, "bars if " + "(".repeat(4) + "[".repeat(5) + "1" + "]".repeat(5) + "=1" + ")".repeat(4), 16);
    fault(true, "bars if " + "(".repeat(8) + "1=[1]" + ")".repeat(8), 18);
    fault(true, "bars if " + "(".repeat(9) + "1=1" + ")".repeat(9), 16);
    fault(true, "runs [1]+" + "[".repeat(8) + "1" + "]".repeat(8), -1);
    fault(true, "bars if " + "not ".repeat(96) + "1=1 ", -1);
    fault(true, " ".repeat(396) + "bars", -1);
    fault(true, " ".repeat(395) + "runs1", -1);
    fault(true, " ".repeat(396) + "runs", 400);
  }

  private static void sums() {
    runs("2 + 3 * 4", 14);
    runs("[2 + 3] * 4", 20);
    runs("20 - 3 - 4", 13);
    runs("90 / 7 / 2", 6);
    runs("91 / 7 / 2", 6);
    runs("100 / 8 % 5 * 4", 8);
    runs("3 - 10", 0);
    runs("1000", 99);
    runs("99", 99);
    runs("50 + [0 - 7] / 2", 47);
    runs("50 + [0 - 7] % 2", 49);
    runs("50 + 7 % [0 - 2]", 51);
    runs("1 / 0", 6);
    runs("1 % [3 - 3]", 6);
    runs("1000 * 1000 * 1000 / 1000 / 1000 / 100", 10);
    runs("[1000 * 1000 * 1000 + 1] / 1000 / 1000 / 100", 6);
    runs("50 + [0 - 1000 * 1000 * 1000] / 1000 / 1000 / 100", 40);
    runs("50 + [0 - 1000 * 1000 * 1000 - 1] / 1000 / 1000 / 100", 6);
    runs("1000 * 1000 * 1000 * 2 / 1000", 6);
    runs("person + 10 * race + strength * 2", 22);
    runs("trade + prizes + gap + mood * 2", 14);
    runs("year - 850", 50);
    runs("5 + place", 4);
    runs("8 if 1 < 2", 8);
    runs("8 if 2 < 2", 6);
    runs("8 if 3 > 2 and 2 = 2", 8);
    runs("8 if not 3 > 2", 6);
    runs("8 if not not 3 > 2", 8);
    runs("8 if 1 = 1 or 1 / 0 = 1", 8);
    runs("8 if 1 = 2 or 1 / 0 = 1", 6);
    runs("8 if 1 / 0 = 1 or 1 = 1", 6);
    runs("8 if not 1 / 0 = 1", 6);
    runs("8 if not (1 = 2 and 1 / 0 = 1)", 8);
    runs("8 if 1 = 1 and 1 / 0 = 1", 6);
    runs("8 if 1 = 1 or 1 / 0 = 1 and 1 / 0 = 1", 8);
    runs("8 if 1 = 2 and 1 = 1 or 1 = 1", 8);
    runs("8 if 1 = 1 or 1 = 1 and 1 = 2", 8);
    runs("8 if (1 = 1 or 1 = 1) and 1 = 2", 6);
    runs("8; runs 9 if 1 = 2", 8);
    runs("8; runs 9", 9);
    runs("8; runs 1 / 0", 8);
    runs("8; runs 9 if 1 / 0 = 1", 8);
    runs("8 if 1 = 2 or 1 = 2 or 2 = 2 or 1 / 0 = 1", 8);
  }

  private static void orders() {
    NoSecond x = Support.isles(5, 7, 5);
    due("13 empty", x.orders(), -6);
    due("13 all", Support.orders(x, "enter 0;enter 1;enter 2; race 0; take latest if latest = 1; pass times 2 if done > 3"), 7);
    due("15 none", x.stopped(), -1);
    due("13 prizes", x.of(1, 1), 5);
    due("13 year", x.count(14), 2);
    due("13 undo", x.count(6), 7);
    due("13 none is asked", Support.orders(x, "pass if 1 / 0 = 1; take 9 if gap > 0"), 0);
    due("13 one can't be", Support.orders(x, "pass; enter 1 times 3; pass; take 0; pass"), -3);
    due("15 which", x.stopped(), 3);
    due("13 status", x.status(), -3);
    due("13 as it was: year", x.count(14), 2);
    due("13 as it was: entered", x.count(1), 0);
    due("13 as it was: undo", x.count(6), 7);
    due("14 a text was read", x.fault(), -1);
    due("13 counted once", x.count(10), 1);
    due("13 broken", Support.orders(x, "enter 1 / 0"), -3);
    due("15 which", x.stopped(), 0);
    due("13 no race 4", Support.orders(x, "race 4"), -3);
    due("13 no race 1e9", Support.orders(x, "race 1000 * 1000 * 1000"), -3);
    due("13 nobody runs", Support.orders(x, "race 0"), -3);
    due("13 no person", Support.orders(x, "enter 3"), -3);
    due("13 no person", Support.orders(x, "enter 0 - 1"), -3);
    due("13 gap 0", Support.orders(x, "take 0"), -3);
    due("13 a fault", Support.orders(x, "take"), -6);
    due("15 none", x.stopped(), -1);
    due("13 words", Support.orders(x, "enter prizes 1 - 5; enter 1 if prizes 3 = 0 - 1 and trade 6 = 0 - 1 and entered = 1; pass if latest = 0 - 1 and year = 2"), 3);
    due("13 entered", x.of(0, 2) + 2 * x.of(1, 2), 3);
    due("13 trade", Support.orders(x, "enter 2 if trade 0 = 0; enter 2 if trade 1 = 1; enter 2 if not trade 2 = 2"), 0);
    due("13 undo of orders", x.undo(), 3);
    due("13 undo of orders", x.undo(), 1);
    due("13 entered", x.of(1, 2), 0);
    NoSecond y = Support.isles(1, 1);
    due("13 kinds", Support.orders(y, "pass;enter 0;pass;enter 0;pass;enter 0;pass;enter 0;enter 0;race 0;pass times 6"), 16);
    due("13 overwritten", Support.orders(y, "enter 0 times 20; enter 0 times 20; take 0"), -3);
    int[] kinds = {3, 3, 3, 3, 3, 3, 0, 1, 1, 3, 1, 3, 1, 3, 1, 3};
    for (int kind : kinds) due("13 as it was: what can be undone", y.undo(), kind);
    due("13 all undone", y.count(14) + y.count(1) + y.count(3), 0);
  }

  private static void orderWords() {
    NoSecond x = Support.isles(1, 2, 3);
    due("13 each time anew", Support.orders(x, "enter done times 3; race 0 times 3 if entered > 0"), 4);
    due("13 gap", x.count(2), 2);
    due("13 the if each time", Support.orders(x, "pass times 20 if year < 5"), 5);
    due("13 year", x.count(14), 5);
    due("13 twenty", Support.orders(x, "pass times 20"), 20);
    due("13 sixteen are kept", x.count(6), 16);
    due("13 stays as it was", Support.orders(x, "pass times 20; enter 7"), -3);
    due("13 sixteen are kept", x.count(6), 16);
    for (int i = 0; i < 16; i++) due("13 undo", x.undo(), 3);
    due("13 no more", x.undo(), -3);
    due("13 year", x.count(14), 9);
    x.terms(0, 990);
    due("13 the end of years", Support.orders(x, "pass times 10"), -3);
    due("13 year", x.count(14), 990);
    due("13 just so", Support.orders(x, "pass times 9"), 9);
    fault(false, "race", 4);
    fault(false, "pass 1", 5);
    fault(false, "pass times", 10);
    fault(false, "pass times 0", 11);
    fault(false, "pass times 21", 11);
    fault(false, "pass times x", 11);
    fault(false, "pass times 20", -1);
    fault(false, "pass if 1=1 times 2", 12);
    fault(false, "enter 1 times 2 if 1=1", -1);
    fault(false, "enter prizes", 12);
    fault(false, "enter prizes 7", 13);
    fault(false, "enter prizes 006", -1);
    fault(false, "enter trade [1]", 12);
    fault(false, "enter person", 6);
    fault(false, "enter mood", 6);
    fault(false, "enter strength", 6);
    fault(false, "runs 1", 0);
    fault(false, "pass if year+done+latest+gap+entered+prizes 0+trade 6>0", -1);
    fault(false, "pass times 1 if " + "prizes 1+".repeat(25) + "1 = " + "1+".repeat(23) + "1", -1);
    fault(false, "pass times 1 if " + "prizes 1+".repeat(25) + "1 = " + "1+".repeat(24) + "trade 1", 16 + 225 + 4 + 48);
    fault(false, "pass;".repeat(12) + "pass", 60);
  }

  private static void force() {
    NoSecond x = Support.isles(5);
    due("16 none", x.force(-1), -1);
    due("16 status", x.status(), 0);
    due("16 no such", x.force(0), -2);
    due("16 no such", x.force(-2), -2);
    Support.law(x, "runs 11");
    Support.law(x, "runs 22");
    due("16 in force only then", x.of(0, 8), 5);
    due("16 none was", x.force(0), -1);
    due("16 first", x.of(0, 8), 11);
    due("16 which was", x.force(1), 0);
    due("16 second", x.of(0, 8), 22);
    due("16 no such", x.force(2), -2);
    due("16 still", x.count(13), 1);
    due("16 none again", x.force(-1), 1);
    due("16 strength", x.of(0, 8), 5);
  }

  private static void race() {
    NoSecond x = Support.isles(1, 2, 3, 4);
    due("17 race 4", x.race(4), -1);
    due("17 race -1", x.race(-1), -1);
    due("17 nobody", x.race(0), -3);
    due("17 status", x.status(), -3);
    x.enter(2);
    due("17 one", x.race(0), 2);
    due("17 prize", x.of(2, 1), 3);
    due("17 no gap", x.count(2), 0);
    due("17 no turn", x.of(2, 0), 0);
    due("17 entered no more", x.of(2, 2), 0);
    for (int p = 0; p < 4; p++) x.enter(p);
    due("17 four", x.race(0), 3);
    due("17 first", x.of(3, 1), 3);
    due("17 second", x.of(2, 1), 3);
    due("17 gap", x.count(2), 2);
    due("17 turned", x.of(2, 0), 1);
    due("17 third", x.of(1, 1), 1);
    due("17 fourth", x.of(0, 1), 0);
    due("17 nobody entered", x.count(1), 0);
    Support.rule(x, "bars if person = 3; wins place * 3 + gap; turns trade + gap + place * 10; runs 50 - strength");
    for (int p = 0; p < 4; p++) x.enter(p);
    due("17 by law", x.race(0), 0);
    due("17 first", x.of(0, 1), 5);
    due("17 third, 11 is 9 at most", x.of(2, 1), 12);
    due("17 gap, asked ahead", x.count(2), 10);
    due("17 turn, 22 is 9 at most", x.of(1, 0), 9);
    due("17 barred one still entered", x.of(3, 2), 1);
    due("17 only barred ones", x.race(0), -3);
  }

  private static void heaps() {
    NoSecond x = Support.isles(1, 2, 3);
    Support.rule(x, "wins 9");
    for (int i = 0; i < 112; i++) { for (int p = 0; p < 3; p++) x.enter(p); x.race(0); }
    due("17 prizes 999 at most", x.of(2, 1), 999);
    due("17 third", x.of(0, 1), 999);
    due("17 gap", x.count(2), 999);
    due("39 all prizes", x.count(3), 1998);
    due("19 taken", x.take(2), 999);
    due("19 999 at most", x.of(2, 1), 999);
    due("19 gap", x.count(2), 0);
    NoSecond y = Support.isles(0, 0);
    Support.rule(y, "wins 0 - 5; turns 0 - 5");
    y.enter(0);
    y.enter(1);
    due("17 race", y.race(1), 0);
    due("17 0 at least", y.of(0, 1) + y.count(2) + y.of(1, 0), 0);
    due("20 turned to the trade she had", y.pass(), 1);
    NoSecond z = new NoSecond();
    z.person(9, -1);
    z.person(9, -1);
    z.enter(0);
    z.enter(1);
    z.race(0);
    due("17 0 behind 9", z.of(1, 0), 0);
  }

  private static void enterTakePass() {
    NoSecond x = Support.isles(1, 2);
    due("18 in", x.enter(0), 1);
    due("18 out", x.enter(0), 0);
    due("18 nobody", x.enter(2), -2);
    due("18 nobody", x.enter(-1), -2);
    due("19 nobody ahead of an empty gap", x.take(2), -2);
    due("19 empty", x.take(0), -3);
    x.enter(0);
    x.enter(1);
    x.race(0);
    due("19 taken", x.take(0), 2);
    due("19 prizes", x.of(0, 1), 2);
    due("19 empty", x.take(0), -3);
    due("20 a year", x.pass(), 0);
    NoSecond y = new NoSecond();
    for (int p = 0; p < 4; p++) y.person(4, -1);
    Support.rule(y, "turns trade + 1 + year if race = 0 and place = 2; turns 3 if person = 3");
    due("20 three", y.pass(), 3);
    due("20 trades", y.of(0, 0) * 1000 + y.of(1, 0) * 100 + y.of(2, 0) * 10 + y.of(3, 0), 4553);
    due("20 year", y.count(14), 1);
    due("20 one", y.pass(), 1);
    due("20 as the year was", y.of(2, 0), 7);
    y.terms(0, 998);
    due("20 the last", y.pass(), 0);
    due("20 no more", y.pass(), -3);
    due("20 status", y.status(), -3);
  }

  private static void undo() {
    NoSecond x = Support.isles(1, 2, 3);
    x.enter(0);
    x.enter(1);
    x.race(0);
    x.take(0);
    x.pass();
    x.strength(0, 0, 9);
    due("21 pass", x.undo(), 3);
    due("21 take", x.undo(), 2);
    due("21 gap", x.count(2), 2);
    due("21 race", x.undo(), 0);
    due("21 trade", x.of(0, 0), 0);
    due("21 entered", x.count(1), 2);
    due("21 prizes", x.count(3), 0);
    due("21 enter", x.undo(), 1);
    due("21 strength stays", x.of(0, 4), 9);
    due("21 left", x.count(6), 1);
    x.terms(0, 1000);
    due("21 a refused terms()", x.count(6), 1);
    x.terms(2, 0);
    due("21 nothing behind terms()", x.undo(), -3);
    x.enter(2);
    x.person(0, -1);
    due("21 nothing behind person()", x.undo(), -3);
    due("21 still entered", x.of(2, 2), 1);
    for (int i = 0; i < 17; i++) x.enter(3);
    due("21 sixteen", x.count(6), 16);
    for (int i = 0; i < 16; i++) due("21 undo", x.undo(), 1);
    due("21 none", x.undo(), -3);
    due("21 the first stays", x.of(3, 2), 1);
  }

  private static void be() {
    NoSecond x = Support.isles(5, 7, 5, 1, 9);
    x.enter(0);
    x.enter(1);
    x.enter(4);
    due("22 as it is", x.be(0, 0, 3, 0), 0);
    due("22 as it is", x.be(0, 0, 3, 1), 0);
    due("22 two out", x.be(0, 0, 1, 0), 2);
    due("22 who", x.be(0, 0, 1, 1), 2 + 16);
    due("22 lowest", x.be(0, 0, 2, 1), 2);
    due("22 one in", x.be(3, 0, 5, 0), 1);
    due("22 who", x.be(3, 0, 5, 1), 4);
    due("22 not so many", x.be(3, 0, 6, 0), -1);
    due("22 not so many", x.be(3, 0, 7, 1), -1);
    due("22 the best one", x.be(4, 0, 1, 0), 0);
    due("22 the best one", x.be(4, 0, 2, 0), -1);
    due("22 alike", x.be(2, 0, 4, 0), 0);
    NoSecond seven = Support.isles(7, 6, 5, 4, 3, 2, 1);
    due("22 place 7", seven.be(6, 0, 7, 0), 6);
    due("22 place 7", seven.be(6, 0, 7, 1), 63);
    int[][] wrong = {{5, 0, 1, 0}, {-1, 0, 1, 0}, {0, 4, 1, 0}, {0, -1, 1, 0}, {0, 0, 0, 0}, {0, 0, 8, 0}, {0, 0, 1, 2}, {0, 0, 1, -1}};
    for (int[] w : wrong) due("22 wrong", x.be(w[0], w[1], w[2], w[3]), -1);
    Support.rule(x, "bars if person = 1 or person = 3");
    due("22 barred herself", x.be(3, 0, 1, 0), -1);
    due("22 barred one does not count", x.be(0, 0, 2, 0), 0);
    due("22 on paper", x.count(1), 3);
  }

  private static void seen() {
    NoSecond x = new NoSecond();
    for (int p = 0; p < 5; p++) x.person(p, -1);
    due("26 none seen", x.look(0), 0);
    due("26 all unlike", x.look(1), 1);
    due("25 all", x.canBe(), 31);
    Support.rule(x, "turns 5 if race = 0; turns person % 2 if race = 1; turns person % 3 if race = 2; bars");
    due("26 watch race 3", x.look(0), 3);
    due("26 one", x.look(1), 1);
    due("23 first", x.seen(0, 5), 1);
    due("25 all", x.canBe(), 31);
    due("23 second", x.seen(1, 0), 2);
    due("25 even", x.canBe(), 21);
    due("26 lowest", x.look(0), 2);
    due("26 one", x.look(1), 1);
    due("23 third", x.seen(2, 1), 3);
    due("25 one", x.canBe(), 16);
    due("26 lowest", x.look(0), 0);
    due("23 fourth", x.seen(2, 2), 4);
    due("25 nobody", x.canBe(), 0);
    due("26 none", x.look(0), -1);
    due("26 none", x.look(1), -1);
    due("23 fifth", x.seen(2, 2), 5);
    due("23 sixth", x.seen(3, 9), 6);
    due("23 no room", x.seen(3, 9), -5);
    due("23 no race, no room", x.seen(4, 0), -1);
    due("23 no trade", x.seen(0, 10), -1);
    due("23 below", x.seen(-1, 0), -1);
    due("23 below", x.seen(0, -1), -1);
    due("39 seen", x.count(4), 6);
    due("24 six", x.forget(), 6);
    due("24 none", x.forget(), 0);
    due("24 status is not touched", x.status(), -1);
    due("25 all", x.canBe(), 31);
    due("26 what 2", x.look(2), -1);
    due("26 what -1", x.look(-1), -1);
    x.force(-1);
    x.seen(0, 1);
    x.seen(1, 1);
    due("25 by the next number", x.canBe(), 1);
    due("26 lowest", x.look(0), 0);
  }

  private static void looks() {
    NoSecond x = new NoSecond();
    for (int p = 0; p < 6; p++) x.person(0, -1);
    Support.rule(x, "turns person / 4 if race = 0; turns person / 3 if race = 1; turns person / 2 if race = 2; turns person % 3 if race = 3");
    due("26 two at most", x.look(1), 2);
    due("26 the lowest race", x.look(0), 2);
    for (int race = 0; race < 4; race++) {
      Support.rule(x, "turns person % 2; turns person if race = " + race);
      due("26 one at most", x.look(1), 1);
      due("26 the one race", x.look(0), race);
    }
  }

  private static void rankingAndCircles() {
    NoSecond x = Support.isles(0, 0, 0, 0, 0, 0, 0);
    due("27 none", x.ranking(0), 0);
    for (int k = 0; k < 7; k++) due("27 the first row", x.ranking(1 + k), k);
    due("27 no eighth", x.ranking(8), -1);
    due("27 below", x.ranking(-1), -1);
    due("28 none", x.circles(), 0);
    for (int p = 0; p < 7; p++) for (int q = 0; q < p; q++) x.beats(p, q, 1);
    due("27 none broken", x.ranking(0), 0);
    for (int k = 0; k < 7; k++) due("27 the other way round", x.ranking(1 + k), 6 - k);
    due("28 no circle in a row", x.circles(), 0);
    for (int p = 0; p < 7; p++) for (int q = 0; q < 7; q++) if (p != q) x.beats(p, q, 1);
    due("27 half of all", x.ranking(0), 21);
    due("27 the first row", x.ranking(1), 0);
    due("28 each three once", x.circles(), 35);
    NoSecond z = Support.isles(0, 0, 0);
    z.image(0);
    for (int p = 3; p < 7; p++) z.person(0, -1);
    for (int p = 0; p < 7; p++) for (int q = 0; q < 7; q++) if (p != q) z.beats(p, q, 1);
    due("27 half of all", z.ranking(0), 21);
    z.back(0);
    due("27 none broken", z.ranking(0), 0);
    NoSecond y = Support.isles(0, 0, 0, 0);
    y.beats(0, 1, 1);
    y.beats(1, 2, 1);
    y.beats(2, 3, 1);
    y.beats(3, 0, 1);
    due("28 a circle of four", y.circles(), 0);
    due("27 one broken", y.ranking(0), 1);
    int[] row = {0, 1, 2, 3};
    for (int k = 0; k < 4; k++) due("27 row", y.ranking(1 + k), row[k]);
    y.beats(2, 0, 1);
    due("28 with a shorter way", y.circles(), 1);
  }

  private static void crowned() {
    NoSecond x = new NoSecond();
    due("29 nobody", x.crowned(0), 0);
    for (int r = 0; r < 4; r++) due("29 nobody", x.crowned(1 + r), 7);
    x.person(0, -1);
    x.person(0, -1);
    x.strength(0, 0, 9);
    x.strength(0, 1, 8);
    x.strength(1, 0, 8);
    x.strength(1, 1, 1);
    due("29 together", x.crowned(0), 16);
    due("29 race 0", x.crowned(1), 1);
    due("29 race 1", x.crowned(2), 0);
    due("29 race 2", x.crowned(3), 7);
    due("29 no race", x.crowned(5), -1);
    due("29 below", x.crowned(-1), -1);
    Support.rule(x, "bars if person = 0 and race = 1; bars if race = 3; runs strength; runs 99 if race = 2 and person = 1");
    due("29 by law", x.crowned(0), 108);
    due("29 race 0", x.crowned(1), 0);
    due("29 race 1", x.crowned(2), 7);
    due("29 race 2", x.crowned(3), 1);
    due("29 race 3", x.crowned(4), 7);
    Support.rule(x, "bars if race = 0 or person = 1; runs 1");
    due("29 one alone", x.crowned(0), 1);
    due("29 nobody", x.crowned(1), 7);
    due("29 the first as a row", x.crowned(2), 0);
    due("29 nobody twice", x.crowned(3), 7);
  }

  private static void heir() {
    NoSecond x = new NoSecond();
    due("30 none", x.heir(-1), 0);
    due("30 none", x.heir(0), -1);
    int[] parents = {-1, -1, 0, 1, 0, 4, -1};
    for (int p : parents) x.person(0, p);
    int[] line = {0, 2, 5, 3, 6};
    due("30 how many", x.heir(-1), line.length);
    for (int i = 0; i < line.length; i++) due("30 heir " + i, x.heir(i), line[i]);
    due("30 no more", x.heir(5), -1);
    due("30 below", x.heir(-2), -1);
    due("30 least", x.heir(LEAST), -1);
    due("30 most", x.heir(MOST), -1);
  }

  private static void ladderAndFew() {
    NoSecond x = new NoSecond();
    due("31 one", x.ladder(1, 1), 1);
    due("31 n 2", x.ladder(2, 5), 0);
    due("31 k 1", x.ladder(60, 1), 0);
    due("31 3 by 2", x.ladder(3, 2), 1);
    due("31 5 by 2", x.ladder(5, 2), 2);
    due("31 6 by 5", x.ladder(6, 5), 15);
    due("31 60 by 2", x.ladder(60, 2), 591286729879L);
    int[][] wrong = {{0, 1}, {61, 1}, {1, 0}, {1, 6}, {-1, 1}, {LEAST, MOST}, {MOST, LEAST}};
    for (int[] w : wrong) due("31 wrong", x.ladder(w[0], w[1]), -1);
    due("33 all", x.few(20, 0), 1000000000000L);
    due("33 none trips", x.few(1, 3), 729000000000L);
    due("33 both cut", x.few(20, 19), 999999999909L);
    x.terms(1, 0);
    due("33 never", x.few(1, 99), 1000000000000L);
    x.terms(1, 10);
    due("33 always", x.few(5, 5), 0);
    due("33 always", x.few(6, 5), 1000000000000L);
    x.terms(1, 3);
    due("33 cut", x.few(1, 13), 9688901040L);
    int[][] few = {{0, 1}, {21, 1}, {1, -1}, {1, 100}, {-1, 0}, {MOST, MOST}};
    for (int[] w : few) due("33 wrong", x.few(w[0], w[1]), -1);
  }

  private static void never() {
    NoSecond x = Support.isles(3, 2, 1);
    due("32 the first of all", x.never(), 1);
    x.strength(1, 1, 1);
    due("32 nobody", x.never(), 0);
    Support.rule(x, "bars if person = 1 and race = 1; bars if person = 2");
    due("32 barred ones", x.never(), 5);
    due("32 nobody there", new NoSecond().never(), 0);
    due("32 alone", Support.isles(0).never(), 1);
  }

  private static void compare() {
    NoSecond x = Support.isles(3, 2, 1);
    Support.law(x, "runs person");
    Support.law(x, "bars");
    due("34 nobody", x.compare(-1, 0), -1);
    for (int p = 0; p < 3; p++) x.enter(p);
    due("34 none", x.compare(-1, 0), 0);
    due("34 first law", x.compare(0, 0), 2);
    due("34 nobody runs", x.compare(1, 0), -1);
    due("34 no such law", x.compare(2, 0), -1);
    due("34 no such law", x.compare(-2, 0), -1);
    due("34 no such race", x.compare(0, 4), -1);
    due("34 no such race", x.compare(0, -1), -1);
    x.force(1);
    due("34 in place of that in force", x.compare(0, 0), 2);
    due("34 in force still", x.count(13), 1);
  }

  private static void centuries() {
    NoSecond x = new NoSecond();
    due("35 n 0", x.centuries(0, 0), -1);
    due("35 n 61", x.centuries(0, 61), -1);
    due("35 seed -1", x.centuries(-1, 1), -1);
    due("35 seed 1000001", x.centuries(1000001, 1), -1);
    due("35 no people", x.centuries(1000000, 60), -3);
    due("35 status", x.status(), -3);
    x.person(0, -1);
    x.person(5, -1);
    // Seed 0: draws of 2, of 4, of 4 are 1 1 1; 1 0 2; 1 1 2; 0 1 2; 0 0 1; 1 0 2; 1 1 1; 1 3 1; 1 3 0; 1 2 3; 1 1 2; 0 2 2.
    due("35 three races", x.centuries(0, 12), 3);
    due("36 prizes", x.drawn(0, 1) * 10 + x.drawn(1, 1), 36);
    due("35 one race", x.centuries(0, 2), 1);
    due("36 prizes", x.drawn(1, 1), 3);
    due("36 entered no more", x.drawn(1, 2), 0);
    due("35 no race", x.centuries(0, 1), 0);
    due("36 trade", x.drawn(1, 0), 5);
    due("36 entered", x.drawn(1, 2), 1);
    due("36 not entered", x.drawn(0, 2), 0);
    due("35 on paper", x.count(1) + x.count(14) + x.count(6), 0);
    due("36 nobody", x.drawn(2, 0), -1);
    due("36 nobody", x.drawn(-1, 0), -1);
    due("36 what 3", x.drawn(0, 3), -1);
    due("36 what -1", x.drawn(0, -1), -1);
    x.person(0, -1);
    due("36 not in the latest", x.drawn(2, 0), -1);
    due("35 refused", x.centuries(0, 0), -1);
    due("36 the latest stays", x.drawn(1, 2), 1);
    x.terms(0, 999);
    due("35 at 999 it ends", x.centuries(7, 60), 0);
    due("36 as it is", x.drawn(2, 0), 0);
    due("36 as it is", x.drawn(1, 2), 0);
  }

  private static void images() {
    NoSecond x = Support.isles(4, 5);
    due("37 k 2", x.image(2), -1);
    due("37 k -1", x.image(-1), -1);
    due("38 k 2", x.back(2), -1);
    due("38 not kept", x.back(1), -2);
    Support.law(x, "runs 10");
    x.force(0);
    x.seen(1, 1);
    x.terms(2, 4);
    x.beats(0, 1, 1);
    x.enter(1);
    due("37 kept", x.image(1), 0);
    due("37 undo stays", x.count(6), 1);
    x.person(3, 1);
    x.strength(0, 0, 9);
    Support.law(x, "runs 20");
    x.force(1);
    x.forget();
    x.seen(3, 7);
    x.seen(2, 7);
    x.terms(2, 6);
    x.terms(0, 500);
    x.terms(1, 9);
    x.beats(1, 0, 1);
    x.enter(2);
    x.race(0);
    x.centuries(3, 3);
    due("37 the other one", x.image(0), 0);
    due("38 back", x.back(1), 0);
    due("38 undo", x.count(6), 0);
    due("38 undo", x.undo(), -3);
    int[] want = {2, 1, 0, 0, 1, 1, 0, 0, 3, 1, 1, 0, 0, 0, 0, 1, 4};
    for (int what = 0; what < want.length; what++) due("38 count(" + what + ")", x.count(what), want[what]);
    due("38 strength", x.of(0, 4), 4);
    due("38 seen", x.canBe(), 3);
    due("38 law", x.of(0, 8), 10);
    due("38 beats", x.beats(0, 1, 1) * 2 + x.beats(1, 0, 0), 2);
    due("38 the latest centuries stay", x.drawn(2, 2) >= 0 ? 1 : 0, 1);
    due("38 another law at the number", Support.law(x, "runs 30"), 1);
    due("38 another person at the number", x.person(8, -1), 2);
    due("38 she has nothing", x.of(2, 4) + x.of(2, 2) + x.beats(2, 0, 0), 0);
    due("38 images stay", x.back(0), 0);
    due("38 law", x.of(0, 8), 20);
    due("38 parent", x.of(2, 3), 1);
    due("38 trips", x.count(15), 9);
    due("38 again", x.back(1), 0);
    due("38 people", x.count(0), 2);
    due("38 status", x.status(), 0);
  }

  private static void backLeaves() {
    NoSecond x = Support.isles(4);
    x.image(0);
    Support.row(x, 9, 9, 9);
    Support.law(x, "runs x");
    Support.orders(x, "enter 0; enter 1");
    x.feed(0, 0, 0, 0, 0);
    x.back(0);
    due("38 tape", x.count(7), 20);
    due("38 blots", x.blots(), 1);
    due("38 fault", x.fault(), -1);
    due("38 stopped", x.stopped(), 1);
    due("38 refusals", x.count(10) + x.count(12), 2);
  }

  private static void countAndStatus() {
    NoSecond x = Support.isles(1, 2);
    due("39 what -1", x.count(-1), -1);
    due("39 what 17", x.count(17), -1);
    due("39 what most", x.count(MOST), -1);
    x.enter(0);
    due("39 entered", x.count(1), 1);
    x.of(9, 9);
    x.placed(9, 9);
    x.be(9, 9, 9, 9);
    x.compare(9, 9);
    x.end(-1);
    due("39 none of these is refused", x.count(8) + x.count(9), 0);
    x.terms(9, 9);
    due("40 -1", x.status(), -1);
    x.of(0, 0);
    x.count(0);
    x.forget();
    x.feed(0, 0, 0, 0, 0);
    x.end(0);
    due("40 stays", x.status(), -1);
    x.force(3);
    due("40 -2", x.status(), -2);
    x.enter(1);
    due("40 0", x.status(), 0);
    x.law();
    due("40 -6", x.status(), -6);
    x.image(0);
    due("40 0", x.status(), 0);
    x.take(0);
    due("40 -3", x.status(), -3);
    due("39 one each", x.count(8) * 1000 + x.count(9) * 100 + x.count(10) * 10 + x.count(12), 1111);
  }

  public static void main(String[] args) {
    newObject(); person(); of(); strength(); beats(); placed(); terms(); feedAndEnd(); row(); law(); sums();
    orders(); orderWords(); force(); race(); heaps(); enterTakePass(); undo(); be(); seen(); looks();
    rankingAndCircles(); crowned(); heir(); ladderAndFew(); never(); compare(); centuries(); images(); backLeaves();
    countAndStatus();
    Support.close("PromiseTest");
  }
}
