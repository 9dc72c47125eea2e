/** The boundaries that the document's Terms name, sentence by sentence: just inside, just beyond. */
public final class BoundsTermsTest {
  private static final int LEAST = Bounds.LEAST, MOST = Bounds.MOST;

  private static void sentence(String quote) { Bounds.sentence(quote); }

  private static void due(String what, long got, long want) { Bounds.due(what, got, want); }

  // ---- I

  private static void people() {
    sentence("PEOPLE 0 .. 6 (7 at most)");
    NoSecond x = new NoSecond();
    due("nobody yet", x.of(0, 0), -1);
    for (int p = 0; p < 7; p++) {
      due("person " + p, x.person(p, -1), p);
      due("she is there", x.of(p, 0), p);
      due("the next one is not", x.of(p + 1, 0), -1);
      due("count(0)", x.count(0), p + 1);
    }
    Bounds.refused("an eighth", Bounds::seven, y -> y.person(0, -1), -5);
    Bounds.granted("a seventh", () -> { NoSecond y = Bounds.rich(); for (int i = 0; i < 3; i++) y.person(0, -1); return y; }, y -> y.person(0, -1), 6);

    sentence("STRENGTH 0 .. 9 for each of RACES 0 .. 3 (0 at first)");
    NoSecond z = new NoSecond();
    z.person(0, -1);
    for (int r = 0; r < 4; r++) {
      due("at first", z.of(0, 4 + r), 0);
      for (int n = 1; n <= 9; n++) due("strength was", z.strength(0, r, n), n - 1);
      due("strength", z.of(0, 4 + r), 9);
      due("to 0 again", z.strength(0, r, 0), 9);
    }
    for (int n : new int[] {-1, 10, LEAST, MOST}) Bounds.refused("strength " + n, Bounds::rich, y -> y.strength(0, 0, n), -1);
    for (int r : new int[] {-1, 4, LEAST, MOST}) Bounds.refused("race " + r, Bounds::rich, y -> y.strength(0, r, 0), -1);
    Bounds.granted("strength 9 for race 3", Bounds::rich, y -> y.strength(2, 3, 9), 4);
    Bounds.granted("strength 0 for race 0", Bounds::rich, y -> y.strength(0, 0, 0), 4);
  }

  private static void whatPeopleHave() {
    sentence(", a TRADE 0 .. 9, ");
    Bounds.granted("trade 0", Bounds::rich, y -> y.person(0, -1), 3);
    Bounds.granted("trade 9", Bounds::rich, y -> y.person(9, -1), 3);
    for (int t : new int[] {-1, 10, LEAST, MOST}) Bounds.refused("trade " + t, Bounds::rich, y -> y.person(t, -1), -1);

    sentence("PRIZES 0 .. 999 (0 at first)");
    due("at first", Support.isles(4).of(0, 1), 0);
    NoSecond x = heaps(998);
    due("998", x.of(0, 1), 998);
    won(x, 1);
    due("999", x.of(0, 1), 999);
    won(x, 1);
    due("999 still", x.of(0, 1), 999);

    sentence("ENTERED or not (at first)");
    due("at first", Support.isles(4).of(0, 2), 0);
    due("nobody is", Support.isles(4, 4).count(1), 0);

    sentence("a PARENT with a lower number or none");
    Bounds.granted("the next lower one", Bounds::rich, y -> y.person(0, 2), 3);
    Bounds.granted("the lowest one", Bounds::rich, y -> y.person(0, 0), 3);
    Bounds.granted("none", Bounds::rich, y -> y.person(0, -1), 3);
    Bounds.refused("herself", Bounds::rich, y -> y.person(0, 3), -1);
    Bounds.refused("below NONE", Bounds::rich, y -> y.person(0, -2), -1);
    Bounds.refused("nobody at all is there", Bounds::empty, y -> y.person(0, 0), -1);

    sentence("The GAP 0 .. 999 (0 at first)");
    due("at first", new NoSecond().count(2), 0);
    x = heaps(998);
    due("998", x.count(2), 998);
    won(x, 1);
    due("999", x.count(2), 999);
    won(x, 1);
    due("999 still", x.count(2), 999);
  }

  /** Three people, each race of whom gives as much to place 1, to the gap, to place 3: all have that much. */
  private static NoSecond heaps(int much) {
    NoSecond x = Support.isles(3, 2, 1);
    Support.rule(x, "wins mood;turns 0");
    x.terms(2, 9);
    for (int left = much / 9; left > 0; left -= 6) Support.orders(x, "enter done % 4 times 3;race 0" + ";enter done % 4 times 3;race 0".repeat(Math.min(6, left) - 1));
    if (much % 9 > 0) won(x, much % 9);
    return x;
  }

  private static void won(NoSecond x, int much) {
    x.terms(2, much);
    for (int p = 0; p < 3; p++) x.enter(p);
    x.race(0);
  }

  private static void whatElseThereIs() {
    sentence("BEATS: of two PEOPLE the one beats the other one (none at first)");
    NoSecond x = Support.isles(0, 0, 0, 0, 0, 0, 0);
    for (int p = 0; p < 7; p++) for (int q = 0; q < 7; q++) if (p != q) due("at first", x.beats(p, q, 0), 0);
    Bounds.refused("one alone", Bounds::rich, y -> y.beats(2, 2, 1), -1);
    Bounds.granted("two", Bounds::rich, y -> y.beats(2, 1, 1), 0);

    sentence("SEEN, 6 at most: one that nobody knows would turn to a TRADE if second in a RACE");
    NoSecond y = new NoSecond();
    for (int i = 1; i <= 6; i++) due("seen", y.seen(0, 0), i);
    due("count(4)", y.count(4), 6);
    Bounds.refused("a seventh", Bounds::crowded, z -> z.seen(0, 0), -5);
    Bounds.granted("a sixth", () -> { NoSecond z = Bounds.rich(); for (int i = 0; i < 4; i++) z.seen(i, i); return z; }, z -> z.seen(3, 9), 6);
    Bounds.granted("behind forget()", () -> { NoSecond z = Bounds.crowded(); z.forget(); return z; }, z -> z.seen(3, 9), 1);

    sentence("TERMS: 0 YEAR 0 .. 999 (0 at first), 1 TRIPS 0 .. 10 (1), 2 MOOD 0 .. 9 (0)");
    int[] most = {999, 10, 9}, first = {0, 1, 0};
    for (int what = 0; what < 3; what++) {
      int term = what, n = most[what];
      due("at first", new NoSecond().count(14 + what), first[what]);
      Bounds.granted("the least", Bounds::empty, z -> z.terms(term, 0), first[what]);
      Bounds.granted("the most", Bounds::empty, z -> z.terms(term, n), first[what]);
      NoSecond z = new NoSecond();
      z.terms(what, n);
      due("it is the most", z.count(14 + what), n);
      due("it was the most", z.terms(what, 0), n);
      due("it is the least", z.count(14 + what), 0);
      for (int v : new int[] {-1, n + 1, LEAST, MOST}) Bounds.refused("term " + what + " " + v, Bounds::rich, w -> w.terms(term, v), -1);
    }
    for (int what : new int[] {-1, 3, LEAST, MOST}) Bounds.refused("no term " + what, Bounds::rich, w -> w.terms(what, 0), -1);
  }

  private static void orderOfRefusals() {
    sentence("REFUSED by: -1 a number that can't be; -2 there is no such PERSON, LAW, IMAGE; -3 it can't be by what stands; -5 no room; -6 a TEXT, a ROW that can't be. The first of these in that order.");
    Bounds.refused("-1 ahead of -5: person()", Bounds::seven, x -> x.person(10, -1), -1);
    Bounds.refused("-1 ahead of -5: person()", Bounds::seven, x -> x.person(0, 7), -1);
    Bounds.refused("-1 ahead of -2: strength()", Bounds::rich, x -> x.strength(3, 4, 0), -1);
    Bounds.refused("-1 ahead of -2: strength()", Bounds::rich, x -> x.strength(-1, 0, 10), -1);
    Bounds.refused("-1 ahead of -2: beats()", Bounds::rich, x -> x.beats(3, 3, 1), -1);
    Bounds.refused("-1 ahead of -2: beats()", Bounds::rich, x -> x.beats(0, 3, 2), -1);
    Bounds.refused("-1 ahead of -2: back()", Bounds::empty, x -> x.back(2), -1);
    Bounds.refused("-1 ahead of -3: race()", Bounds::empty, x -> x.race(4), -1);
    Bounds.refused("-1 ahead of -3: centuries()", Bounds::empty, x -> x.centuries(0, 61), -1);
    Bounds.refused("-1 ahead of -3: centuries()", Bounds::empty, x -> x.centuries(1000001, 1), -1);
    Bounds.refused("-1 ahead of -5: seen()", Bounds::crowded, x -> x.seen(4, 0), -1);
    Bounds.refused("-1 ahead of -5: seen()", Bounds::crowded, x -> x.seen(0, 10), -1);
    Bounds.refused("-2 ahead of -3: take()", Bounds::empty, x -> x.take(0), -2);
    Bounds.refusedText("-5 ahead of -6: law()", () -> { NoSecond x = Bounds.crowded(); Support.tape(x, "runs"); return x; }, NoSecond::law, -5, -1, 1);
    Bounds.refusedText("-5 ahead of -6: law()", () -> { NoSecond x = Bounds.crowded(); x.end(0); return x; }, NoSecond::law, -5, -1, 1);
  }

  // ---- II

  private static void tape() {
    sentence("TEXTS are on a TAPE of at most 400 bytes");
    Bounds.fault(true, " ".repeat(395) + "runs1", -1);
    Bounds.fault(true, " ".repeat(396) + "runs", 400);
    Bounds.fault(true, "bars if " + "not ".repeat(97) + "1=1 ", -1);
    Bounds.fault(true, "bars if " + "not ".repeat(97) + "1<=", 398);
    NoSecond x = new NoSecond();
    for (int n = 1; n <= 20; n++) due("twenty more", x.feed(-1, -1, -1, -1, -1), 20 * n);
    due("no more", x.feed(0, 0, 0, 0, 0), -1);
    due("400", x.count(7), 400);
    due("all blots", x.row(), 0);
    due("by fives", x.blots(), 80);
  }

  private static void tokens() {
    sentence("longest rows of letters a .. z, of digits, single other bytes, any blanks (32) between");
    Bounds.fault(true, "bars", -1);
    Bounds.fault(true, "bars" + (char) 96, 4);
    Bounds.fault(true, "bars" + (char) 123, 4);
    Bounds.fault(true, "barsa", 0);
    Bounds.fault(true, "barsz", 0);
    Bounds.fault(true, "barS", 0);
    Bounds.fault(true, "Bars", 0);
    Bounds.fault(true, "runs0", -1);
    Bounds.fault(true, "runs9", -1);
    Bounds.fault(true, "runs" + (char) 47, 4);
    Bounds.fault(true, "runs" + (char) 58, 4);
    Bounds.fault(true, "runs 1" + (char) 58, 6);
    Bounds.fault(true, "runs 1 0", 7);
    Bounds.fault(true, "ru ns 1", 0);
    Bounds.fault(true, "runs 1if 1=1", -1);
    Bounds.fault(true, "runs gapif 1=1", 5);
    Bounds.fault(true, "runs gap if1=1", -1);
    Bounds.fault(true, "barsif 1=1", 0);
    Bounds.fault(true, "bars if 1=1or 1=1and 1=1", -1);
    Bounds.fault(true, "bars if notgap=1", 8);
    Bounds.fault(true, "bars if not1=1", -1);
    Bounds.fault(true, "bars if((1=[1]))", -1);
    Bounds.fault(true, "   runs   1   ;   bars   ", -1);
    Bounds.fault(true, "runs1;bars", -1);
    for (int c : new int[] {0, 9, 10, 13, 31, 33, 95, 127, 128, 160, 225, 255}) {
      Bounds.fault(true, "runs" + (char) c + "1", 4);
      Bounds.fault(true, "bars" + (char) c, 4);
      Bounds.fault(true, (char) c + "bars", 0);
      Bounds.fault(false, " pass" + (char) c, 5);
    }
    Bounds.runs("1 if 1 = 1 and12 > 11", 1);
    Bounds.runs("12", 12);
  }

  private static void clauses() {
    sentence("CLAUSE {\";\" CLAUSE}, 12 at most (FAULT at the 13th's first TOKEN)");
    Bounds.fault(true, "bars", -1);
    Bounds.fault(true, "bars" + ";bars".repeat(11), -1);
    Bounds.fault(true, "bars" + ";bars".repeat(12), 60);
    Bounds.fault(true, "bars" + ";bars".repeat(11) + " ;  bars", 63);
    Bounds.fault(true, "bars" + ";bars".repeat(11) + ";", 60);
    Bounds.fault(true, "bars" + ";bars".repeat(11) + ";  ", 62);
    Bounds.fault(true, "bars" + ";bars".repeat(11) + "; ;", 61);
    Bounds.fault(true, "bars" + ";bars".repeat(10) + ";", 55);
    Bounds.fault(true, ";bars", 0);
    Bounds.fault(true, "bars;;bars", 5);
    Bounds.fault(false, "pass if 1=2" + ";pass if 1=2".repeat(11), -1);
    Bounds.fault(false, "pass if 1=2" + ";pass if 1=2".repeat(12), 144);
    Bounds.fault(false, "pass if 1=2" + ";pass if 1=2".repeat(12) + ";x", 144);
    NoSecond x = new NoSecond();
    due("twelve are run", Support.orders(x, "pass" + ";pass".repeat(11)), 12);
    NoSecond y = Support.isles(5);
    Support.rule(y, "runs 1;runs 2;runs 3;runs 4;runs 5;runs 6;runs 7;runs 8;runs 9;runs 10;runs 11;runs 12");
    due("the twelfth tells", y.of(0, 8), 12);
  }

  private static void numbers() {
    sentence("NUMBER (to 1,000)");
    Bounds.faultOfBoth("runs 0", "pass if 0 = 1", -1, -1);
    Bounds.faultOfBoth("runs 1000", "pass if 1000 = 1", -1, -1);
    Bounds.faultOfBoth("runs 1001", "pass if 1001 = 1", 5, 8);
    Bounds.faultOfBoth("runs 000000000000001000", "pass if 0001000 = 1", -1, -1);
    Bounds.faultOfBoth("runs 000000000000001001", "pass if 0001001 = 1", 5, 8);
    for (String wraps : new String[] {"1002", "2000", "9999", "10000", "65537", "2147483648", "4294967296", "4294967297", "9223372036854775808", "18446744073709551616", "18446744073709551617", "1" + "0".repeat(380)}) {
      Bounds.fault(true, "runs " + wraps, 5);
    }
    Bounds.runs("1000 / 10 - 1", 99);
    Bounds.runs("0", 0);
    Bounds.runs("000000000000000000000042", 42);
  }

  private static void parts() {
    sentence("50 PARTS that are NUMBERS and words (FAULT at the 51st)");
    Bounds.fault(true, "runs " + "1+".repeat(49) + "1", -1);
    Bounds.fault(true, "runs " + "1+".repeat(50) + "1", 105);
    Bounds.fault(true, "runs " + "1+".repeat(50) + "gap", 105);
    Bounds.fault(true, "runs " + "gap+".repeat(49) + "gap", -1);
    Bounds.fault(true, "runs " + "gap+".repeat(50) + "gap", 205);
    Bounds.fault(true, "runs " + "1+".repeat(50) + "[1]", 106);
    Bounds.fault(true, "runs " + "[1]+".repeat(49) + "[1]", -1);
    Bounds.fault(true, "runs " + "[1]+".repeat(50) + "[1]", 206);
    Bounds.fault(true, "runs " + "1+".repeat(47) + "1 if 1=1", -1);
    Bounds.fault(true, "runs " + "1+".repeat(48) + "1 if 1=1", 108);
    Bounds.fault(true, "runs " + "1+".repeat(24) + "1;wins " + "1+".repeat(24) + "1", -1);
    Bounds.fault(true, "runs " + "1+".repeat(24) + "1;wins " + "1+".repeat(25) + "1", 110);
    Bounds.fault(true, "runs " + "1+".repeat(49) + "1;bars", -1);
    Bounds.fault(true, "runs " + "1+".repeat(49) + "1;bars if 1=1", 113);
    Bounds.fault(true, "runs " + "1+".repeat(50), 105);
    Bounds.runs("1+".repeat(49) + "1", 50);
    Bounds.runs("1+[".repeat(8) + "1" + "]".repeat(8) + "+1".repeat(41), 50);
  }

  private static void brackets() {
    sentence("8 brackets of both kinds within one another (FAULT at the 9th) at most");
    Bounds.fault(true, "runs " + "[".repeat(8) + "1" + "]".repeat(8), -1);
    Bounds.fault(true, "runs " + "[".repeat(9) + "1" + "]".repeat(9), 13);
    Bounds.fault(true, "bars if " + "(".repeat(8) + "1=1" + ")".repeat(8), -1);
    Bounds.fault(true, "bars if " + "(".repeat(9) + "1=1" + ")".repeat(9), 16);
    Bounds.fault(true, "bars if " + "(".repeat(7) + "[1]=[1]" + ")".repeat(7), -1);
    Bounds.fault(true, "bars if " + "(".repeat(8) + "[1]=1" + ")".repeat(8), 16);
    Bounds.fault(true, "bars if " + "(".repeat(8) + "1=[1]" + ")".repeat(8), 18);
    Bounds.fault(true, "bars if " + "not(".repeat(8) + "1=1" + ")".repeat(8), -1);
    Bounds.fault(true, "bars if " + "not(".repeat(9) + "1=1" + ")".repeat(9), 43);
    Bounds.fault(true, "bars if (" + "[".repeat(7) + "1" + "]".repeat(7) + "=1)", -1);
    Bounds.fault(true, "bars if (" + "[".repeat(8) + "1" + "]".repeat(8) + "=1)", 16);
    Bounds.fault(true, "runs " + "[1]+".repeat(20) + "[".repeat(8) + "1" + "]".repeat(8), -1);
    Bounds.fault(true, "runs [1+" + "[".repeat(7) + "1" + "]".repeat(7) + "+" + "[".repeat(7) + "1" + "]".repeat(7) + "]", -1);
    Bounds.fault(true, "runs [1+" + "[".repeat(7) + "1" + "]".repeat(7) + "+" + "[".repeat(8) + "1" + "]".repeat(8) + "]", 31);
    Bounds.fault(true, "runs " + "[".repeat(8) + "1" + "]".repeat(7), 21);
    Bounds.fault(true, "runs " + "[".repeat(8) + "1" + "]".repeat(9), 22);
    Bounds.fault(false, "enter " + "[".repeat(8) + "0" + "]".repeat(8), -1);
    Bounds.fault(false, "enter " + "[".repeat(9) + "0" + "]".repeat(9), 14);
    Bounds.runs("[[[[[[[[7]*2]+1]*2]+1]*2]-1]+1]", 62);
  }

  private static void faults() {
    sentence("FAULT: the first TOKEN that can't go on there (the end's: the TEXT's length)");
    String[] texts = {"", " ", "     ", "runs", "runs ", "runs 1 +", "runs 1 +   ", "runs [1", "bars if", "bars if 1", "bars if 1 <", "bars if (1=1", "bars if not", "bars if 1=1 or", "bars if 1=1 and ", "bars;", "turns", "wins"};
    for (String text : texts) Bounds.fault(true, text, text.length());
    texts = new String[] {"", " ", "race", "enter", "take ", "race 1 times", "pass times ", "pass if", "enter prizes", "enter trade ", "pass;", "take 1 -"};
    for (String text : texts) Bounds.fault(false, text, text.length());
    Bounds.fault(true, "runs 1 2", 7);
    Bounds.fault(true, "runs - 1", 5);
    Bounds.fault(true, "bars if 1=1=1", 11);
    Bounds.fault(true, "bars if 1>=1", 10);
    Bounds.fault(true, "bars if (1)=1", 10);
    Bounds.fault(true, "bars if [1=1]", 10);
    Bounds.fault(true, "bars if 1=1 not 2=2", 12);
    Bounds.fault(true, "bars if 1=1 if 2=2", 12);
    Bounds.fault(true, "runs 1001 + x", 5);
    Bounds.fault(true, "runs 1]", 6);
    Bounds.fault(true, "bars if 1=1)", 11);
    Bounds.fault(true, "bars 1", 5);
    Bounds.fault(true, "runs 1 times 2", 7);
    Bounds.fault(true, "pass", 0);
    Bounds.fault(false, "bars", 0);
    Bounds.fault(false, "pass 1", 5);
    Bounds.fault(false, "pass if 1=1 times 2", 12);
    for (String word : new String[] {"done", "latest", "entered", "times", "runs", "if", "or"}) Bounds.fault(true, "runs " + word, 5);
    for (String word : new String[] {"person", "race", "strength", "place", "mood", "times", "take", "not"}) Bounds.fault(false, "enter " + word, 6);
  }

  private static void broken() {
    sentence("Beyond 1,000,000,000 either way, or divided by 0 (/ cut towards 0, % what is left then), a SUM, a TEST is BROKEN");
    Bounds.runs("1000*1000*1000/1000/1000/100", 10);
    Bounds.runs("[1000*1000*1000+1]*0+3", 6);
    Bounds.runs("[1000*1000*1000+0]*0+3", 3);
    Bounds.runs("[999*1000*1000+1000*1000]*0+3", 3);
    Bounds.runs("[999*1000*1000+1000*1000+1]*0+3", 6);
    Bounds.runs("[1+1000*1000*1000]*0+3", 6);
    Bounds.runs("[0-1000*1000*1000]*0+3", 3);
    Bounds.runs("[0-1000*1000*1000-1]*0+3", 6);
    Bounds.runs("1000*1000*1000+1-1", 6);
    Bounds.runs("1000*1000*1000-1+1-1000*1000*1000+3", 3);
    Bounds.runs("[1000*1000+1]*1000*0+3", 6);
    Bounds.runs("[0-1000*1000]*1000*0+3", 3);
    Bounds.runs("[0-1000*1000-1]*1000*0+3", 6);
    Bounds.runs("1000*1000*1000*1000*1000*1000*1000*0+3", 6);
    Bounds.runs("[1000*1000*1000]*[1000*1000*1000]*0+3", 6);
    Bounds.runs("[0-1000*1000*1000]*[1000*1000*1000]*0+3", 6);
    Bounds.runs("1000*1000*1000*0+3", 3);
    Bounds.runs("3 if 1000*1000*1000=1000*1000*1000", 3);
    Bounds.runs("3 if 1000*1000*1000+1>0", 6);
    Bounds.runs("3 if not 1000*1000*1000+1<0", 6);
    Bounds.runs("3 if 0-1000*1000*1000-1<0", 6);
    Bounds.runs("3 if 0-1000*1000*1000<0", 3);
    Bounds.runs("7/0", 6);
    Bounds.runs("7%0", 6);
    Bounds.runs("0/0", 6);
    Bounds.runs("7/[2-2]+1", 6);
    Bounds.runs("0/1+3", 3);
    Bounds.runs("7/1", 7);
    Bounds.runs("3 if 1/0=1", 6);
    Bounds.runs("3 if not 1%0=1", 6);
    Bounds.runs("7/2", 3);
    Bounds.runs("50+[0-7]/2", 47);
    Bounds.runs("50+7/[0-2]", 47);
    Bounds.runs("50+[0-7]/[0-2]", 53);
    Bounds.runs("50+[0-1]/2", 50);
    Bounds.runs("50+7%3", 51);
    Bounds.runs("50+[0-7]%3", 49);
    Bounds.runs("50+7%[0-3]", 51);
    Bounds.runs("50+[0-7]%[0-3]", 49);
    Bounds.runs("50+[0-6]%3", 50);
    Bounds.runs("50+7%[0-1]", 50);

    sentence("(\"or\", \"and\" ask what stands behind only if it can still matter)");
    Bounds.runs("3 if 1=1 or 1/0=1", 3);
    Bounds.runs("3 if 1=2 or 1/0=1", 6);
    Bounds.runs("3 if 1/0=1 or 1=1", 6);
    Bounds.runs("3 if not (1=2 and 1/0=1)", 3);
    Bounds.runs("3 if not (1=1 and 1/0=1)", 6);
    Bounds.runs("3 if not (1/0=1 and 1=2)", 6);
    Bounds.runs("3 if 1=1 or 1/0=1 or 1/0=1", 3);
    Bounds.runs("3 if 1=2 or 1=1 or 1/0=1", 3);
    Bounds.runs("3 if 1=1 and 1=1 or 1/0=1", 3);
    Bounds.runs("3 if 1=2 and 1/0=1 or 1=1", 3);
    Bounds.runs("3 if 1=2 and 1/0=1 and 1/0=1 or 1=1", 3);
    Bounds.runs("3 if 1=1 or 1=2 and 1/0=1", 3);
    Bounds.runs("3 if (1=1 or 1/0=1) and 1=1", 3);
    Bounds.runs("3 if (1=1 or 1/0=1) and 1/0=1", 6);
    Bounds.runs("3 if not 1=2 or 1/0=1", 3);
  }

  private static void laws() {
    sentence("LAWS, 6 at most; one is in FORCE (NONE at first: no CLAUSE)");
    NoSecond x = Support.isles(5);
    due("at first", x.count(13), -1);
    for (int i = 0; i < 6; i++) due("law", Support.law(x, "runs " + (10 + i)), i);
    due("count(5)", x.count(5), 6);
    due("no clause", x.of(0, 8), 5);
    due("still none", x.count(13), -1);
    due("the sixth", x.force(5), -1);
    due("the sixth", x.of(0, 8), 15);
    Bounds.refused("no seventh", Bounds::crowded, y -> y.force(6), -2);
    Bounds.refusedText("a seventh", Bounds::crowded, NoSecond::law, -5, -1, 1);
    Bounds.granted("the sixth", () -> { NoSecond y = Bounds.rich(); for (int i = 1; i < 5; i++) Support.law(y, "bars"); Support.tape(y, "runs 7"); return y; }, NoSecond::law, 5);

    sentence("place: 1, 2, 3 where it is told, for \"runs\", \"bars\" -1");
    NoSecond y = Support.isles(3, 2, 1, 0);
    Support.rule(y, "runs 50 + place + strength * 10; bars if not place = 0 - 1; wins place + 4; turns place + 4");
    due("runs", y.of(0, 8), 79);
    due("bars", y.of(0, 12), 0);
    for (int p = 0; p < 4; p++) y.enter(p);
    y.race(0);
    due("wins: 1", y.of(0, 1), 5);
    due("wins: 2", y.count(2), 6);
    due("wins: 3", y.of(2, 1), 7);
    due("the fourth wins nothing", y.of(3, 1), 0);
    due("turns: 2", y.of(1, 0), 6);
  }

  private static void holds() {
    sentence("A CLAUSE HOLDS, if its \"if\" (if it has one) is so, and neither that nor its SUM is BROKEN");
    Bounds.runs("3", 3);
    Bounds.runs("3 if 1=1", 3);
    Bounds.runs("3 if 1=2", 6);
    Bounds.runs("3 if 1/0=1", 6);
    Bounds.runs("3/0", 6);
    Bounds.runs("3/0 if 1=1", 6);
    Bounds.runs("3; runs 4/0", 3);
    Bounds.runs("3; runs 4 if 1/0=1", 3);
    Bounds.runs("3; runs 4 if 1=2", 3);
    NoSecond x = Support.isles(6);
    Support.rule(x, "bars if 1/0 = 1");
    due("bars that is broken", x.of(0, 12), 0);
    Support.rule(x, "bars");
    due("bars without if", x.of(0, 12), 1);
    Support.rule(x, "bars if 1 = 1; bars if 1 = 2");
    due("one holds", x.of(0, 12), 1);

    sentence("One RUNS by 0 .. 99 as the last \"runs\" that HOLDS tells (else the nearest), without STRENGTH");
    Bounds.runs("0", 0);
    Bounds.runs("0-1", 0);
    Bounds.runs("0-1000*1000*1000", 0);
    Bounds.runs("99", 99);
    Bounds.runs("100", 99);
    Bounds.runs("1000*1000*1000", 99);
    Bounds.runs("3;runs 4;runs 5", 5);
    Bounds.runs("3 if 1=2", 6);

    sentence("would-be seconds TURN (place 2) to a TRADE 0 .. 9, without to the next number (0 behind 9)");
    int[][] next = {{0, 1}, {8, 9}, {9, 0}};
    for (int[] n : next) due("behind " + n[0], turned(n[0], "bars if 1 = 2"), n[1]);
    due("0", turned(5, "turns 0"), 0);
    due("below 0", turned(5, "turns 0-1"), 0);
    due("far below 0", turned(5, "turns 0-1000*1000*1000"), 0);
    due("9", turned(5, "turns 9"), 9);
    due("10", turned(5, "turns 10"), 9);
    due("far beyond 9", turned(5, "turns 1000*1000*1000"), 9);
    due("broken", turned(9, "turns 1/0"), 0);
    due("the last that holds", turned(5, "turns 7; turns 8 if 1=2"), 7);
  }

  /** What one with a trade turns to as second by a law. */
  private static int turned(int trade, String law) {
    NoSecond x = new NoSecond();
    x.person(0, -1);
    x.person(trade, -1);
    Support.rule(x, law);
    x.enter(0);
    x.enter(1);
    x.race(0);
    return x.of(1, 0);
  }

  private static void wins() {
    sentence("a PLACE WINS (1, 2, 3) 0 .. 9, without 4 less the PLACE");
    String[] laws = {"bars if 1=2", "wins 0", "wins 0-1", "wins 9", "wins 10", "wins 1000*1000*1000", "wins 1/0", "wins 5;wins 6 if place=2", "wins 7 if place=4"};
    int[][] won = {{3, 2, 1, 0}, {0, 0, 0, 0}, {0, 0, 0, 0}, {9, 9, 9, 0}, {9, 9, 9, 0}, {9, 9, 9, 0}, {3, 2, 1, 0}, {5, 6, 5, 0}, {3, 2, 1, 0}};
    for (int i = 0; i < laws.length; i++) {
      NoSecond x = Support.isles(4, 3, 2, 1);
      Support.rule(x, laws[i]);
      for (int p = 0; p < 4; p++) x.enter(p);
      x.race(0);
      due(laws[i] + " 1", x.of(0, 1), won[i][0]);
      due(laws[i] + " 2", x.count(2), won[i][1]);
      due(laws[i] + " 2 herself", x.of(1, 1), 0);
      due(laws[i] + " 3", x.of(2, 1), won[i][2]);
      due(laws[i] + " 4", x.of(3, 1), won[i][3]);
    }
  }

  private static void ordersText() {
    sentence("TIMES: a NUMBER 1 .. 20");
    Bounds.fault(false, "pass times 0", 11);
    Bounds.fault(false, "pass times 1", -1);
    Bounds.fault(false, "pass times 20", -1);
    Bounds.fault(false, "pass times 21", 11);
    Bounds.fault(false, "pass times 1001", 11);
    Bounds.fault(false, "pass times 4294967297", 11);
    Bounds.fault(false, "pass times 0020", -1);
    Bounds.fault(false, "pass times [1]", 11);
    Bounds.fault(false, "pass times year", 11);
    Bounds.fault(false, "pass times 2 times 2", 13);
    due("twenty", Support.orders(new NoSecond(), "pass times 20"), 20);
    due("one", Support.orders(new NoSecond(), "pass times 1"), 1);

    sentence("(P: a NUMBER 0 .. 6)");
    Bounds.fault(false, "pass if prizes 0 = 5", -1);
    Bounds.fault(false, "pass if prizes 6 = 5", -1);
    Bounds.fault(false, "pass if prizes 7 = 5", 15);
    Bounds.fault(false, "pass if trade 0 = 5", -1);
    Bounds.fault(false, "pass if trade 6 = 5", -1);
    Bounds.fault(false, "pass if trade 7 = 5", 14);
    Bounds.fault(false, "pass if trade 1001 = 5", 14);
    Bounds.fault(false, "pass if trade 4294967296 = 5", 14);
    Bounds.fault(false, "pass if trade 00006 = 5", -1);
    Bounds.fault(false, "pass if trade = 5", 14);
    Bounds.fault(false, "pass if trade gap = 5", 14);
    Bounds.fault(false, "pass if trade [1] = 5", 14);
    Bounds.fault(true, "bars if trade 1 = 5", 14);

    sentence("P, TIMES aside, NUMBERS and words count as PARTS");
    String inside = "enter " + "trade 0+".repeat(20) + "1+".repeat(27) + "1 times 1 if 1=1", beyond = "enter " + "trade 0+".repeat(20) + "1+".repeat(28) + "1 times 1 if 1=1";
    Bounds.fault(false, inside, -1);
    Bounds.fault(false, beyond, beyond.length() - 1);
    Bounds.fault(false, "pass times 3 if 1=1;".repeat(11) + "pass times 3", -1);
    Bounds.fault(false, "pass if " + "1+".repeat(48) + "1=prizes 0", -1);
    Bounds.fault(false, "pass if " + "1+".repeat(49) + "1=prizes 0", 108);
    Bounds.fault(false, "pass if " + "1+".repeat(49) + "1=prizes 9", 108);
    Bounds.fault(false, "pass if " + "1+".repeat(48) + "1=prizes 9", 113);
  }

  private static void ordersRun() {
    sentence("each as often as TIMES tell (once without); each time its \"if\" is asked (not run, if it is not so or BROKEN), then its SUMS from the left");
    NoSecond x = Support.isles(4, 5);
    due("once", Support.orders(x, "pass"), 1);
    due("never", Support.orders(x, "pass times 20 if year > 1"), 0);
    due("until it is not so", Support.orders(x, "pass times 20 if year < 4"), 3);
    due("if broken", Support.orders(x, "pass times 20 if 1/0 = 1; pass if year % 0 = 0"), 0);
    due("the sum is not asked then", Support.orders(x, "take 1/0 if 1 = 2; race 9 if 1/0 = 1; enter 7 times 20 if 2 = 1"), 0);
    due("years", x.count(14), 4);
    due("status()", x.status(), 0);

    sentence("latest: what the latest race in it told (-1: none)");
    NoSecond three = Support.isles(4, 5, 6);
    due("the race's alone", Support.orders(three, "enter 2;race 0;enter 0;enter 0;pass;take 0 if gap > 0;pass if latest = 2;enter 1;race 1;enter 2;pass if latest = 1"), 10);
    NoSecond y = Support.isles(4, 5);
    due("none yet", Support.orders(y, "pass if latest = 0 - 1; pass if latest = 0"), 1);
    due("the race's", Support.orders(y, "enter 1; race 0; enter 0 if latest = 1; pass if latest = 1"), 4);
    due("none in this text", Support.orders(y, "pass if latest = 0 - 1; race 0; pass if latest = 0"), 3);

    sentence("entered: how many are, prizes, trade: -1 without such a PERSON");
    NoSecond words = Bounds.rich();
    due("how many are", Support.orders(words, "pass if entered = 2; enter 0; pass if entered = 3; enter 0 times 2 if entered = 2"), 3);
    due("the gap", Support.orders(words, "pass if gap = 3; take 2; pass if gap = 0"), 3);
    due("prizes", Support.orders(words, "pass if prizes 0 = 4; pass if prizes 1 = 2; pass if prizes 2 = 3"), 3);
    due("trade", Support.orders(words, "pass if trade 0 = 3; pass if trade 1 = 5; pass if trade 2 = 0"), 3);
    due("done", Support.orders(words, "pass if done = 0; pass if done = 0; pass if done = 1; pass if done = 2"), 3);
    due("the year", Support.orders(words, "pass if year = 14; pass if year = 14; pass if year = 15"), 2);
    NoSecond z = Support.isles(4, 5);
    due("the last one", Support.orders(z, "pass if prizes 1 = 0; pass if trade 1 > 0 - 1"), 2);
    due("nobody", Support.orders(z, "pass if prizes 2 = 0 - 1; pass if trade 2 = 0 - 1; pass if prizes 6 = 0 - 1 and trade 6 = 0 - 1"), 3);
    due("nobody at all", Support.orders(new NoSecond(), "pass if prizes 0 = 0 - 1 and trade 0 = 0 - 1 and entered = 0"), 1);

    sentence("One that can't be (a BROKEN SUM, as race(), enter(), take(), pass() are REFUSED) ends it: all is as it was ahead of it");
    String[] ends = {"enter 1/0", "race 1/0", "take 1/0", "take 1000*1000*1000+1", "race 4", "race 0-1", "race 1000*1000*1000", "enter 3", "enter 0-1", "enter 0-1000*1000*1000", "take 3", "take 0 - 1"};
    for (String end : ends) stops("pass times 3;enter 0;enter 1;" + end + ";pass", 3);
    stops("enter 1;enter 2;race 0", 2);
    stops("enter 0;race 0;take 0;pass;enter 0;enter 1;race 1;take 1;take 1", 8);
    stops("take 0;take 0", 1);
    stops("enter 0 times 20;enter 1 times 20;enter 2 times 19;take 1;pass;take 1 times 2", 5);
    stops("race 4 times 20", 0);
    stops("enter 0;".repeat(11) + "enter 9", 11);
    Bounds.refusedText("no year behind 999", () -> { NoSecond w = Bounds.rich(); w.terms(0, 990); w.enter(0); Support.tape(w, "pass times 10"); return w; }, NoSecond::orders, -3, -1, 0);
    Bounds.granted("just 999", () -> { NoSecond w = Bounds.rich(); w.terms(0, 990); Support.tape(w, "pass times 9"); return w; }, NoSecond::orders, 9);
  }

  private static void stops(String text, int at) {
    Bounds.refusedText(text, () -> { NoSecond x = Bounds.rich(); Support.tape(x, text); return x; }, NoSecond::orders, -3, -1, at);
  }

  // ---- III

  private static void placed() {
    sentence("by how they RUN, the most first, the lowest number of alike ones first: the first is PLACE 1, the next would be second (2), the next is PLACE 3, the others 4 and on");
    NoSecond x = Support.isles(5, 5, 5, 5, 5, 5, 5);
    for (int n = 0; n < 7; n++) {
      due("nobody there", x.placed(0, n + 1), -1);
      x.enter(6 - n);
      due("how many", x.placed(0, 0), n + 1);
      for (int place = 1; place <= n + 1; place++) due("place " + place, x.placed(0, place), 6 - n + place - 1);
    }
    x.strength(6, 0, 6);
    due("the most first", x.placed(0, 1), 6);
    x.strength(0, 0, 4);
    due("the least last", x.placed(0, 7), 0);
    for (int place = 2; place < 7; place++) due("alike", x.placed(0, place), place - 1);

    sentence("A RACE that one at least runs: PLACES 1 and 3 have PRIZES more by what they WIN, the GAP is more by what PLACE 2 WINS, that of the one who would be second (999 at most each), who TURNS to a TRADE (all asked as it was ahead)");
    Bounds.refused("nobody runs", () -> { NoSecond y = Bounds.rich(); y.enter(1); y.enter(2); return y; }, y -> y.race(0), -3);
    for (int n = 1; n <= 7; n++) {
      NoSecond y = Support.isles(9, 8, 7, 6, 5, 4, 3);
      for (int p = 0; p < n; p++) y.enter(p);
      due(n + " run", y.race(0), 0);
      due("place 1", y.of(0, 1), 3);
      due("the gap", y.count(2), n > 1 ? 2 : 0);
      due("place 2", y.of(1, 0) * 10 + y.of(1, 1), n > 1 ? 10 : 0);
      due("place 3", y.of(2, 1), n > 2 ? 1 : 0);
      due("all prizes", y.count(3), n > 2 ? 4 : 3);
      due("entered no more", y.count(1), 0);
    }
    int[][] most = {{990, 9, 999}, {991, 9, 999}, {991, 8, 999}, {998, 9, 999}, {997, 1, 998}};
    for (int[] m : most) {
      NoSecond y = heaps(m[0]);
      won(y, m[1]);
      due(m[0] + " and " + m[1] + ": place 1", y.of(0, 1), m[2]);
      due(m[0] + " and " + m[1] + ": the gap", y.count(2), m[2]);
      due(m[0] + " and " + m[1] + ": place 3", y.of(2, 1), m[2]);
    }
    NoSecond z = Support.isles(3, 2, 1);
    Support.rule(z, "wins gap + prizes + 1; turns gap + trade + 3");
    for (int i = 0; i < 2; i++) { for (int p = 0; p < 3; p++) z.enter(p); z.race(0); }
    due("asked ahead: place 1", z.of(0, 1), 1 + 1 + 1 + 1);
    due("asked ahead: gap", z.count(2), 1 + 2);
    due("asked ahead: place 3", z.of(2, 1), 1 + 1 + 1 + 1);
    due("asked ahead: trade", z.of(1, 0), 3 + 1 + 3);
  }

  private static void moves() {
    sentence("To TAKE: PRIZES are more by the GAP (999 at most), which is 0 then");
    int[][] most = {{499, 1, 999}, {499, 2, 999}, {498, 2, 998}};
    for (int[] m : most) {
      NoSecond x = heaps(m[0]);
      x.terms(2, m[1]);
      x.enter(0);
      x.race(0);
      due("has", x.of(0, 1), m[0] + m[1]);
      due("takes", x.take(0), m[0]);
      due("has then", x.of(0, 1), m[2]);
      due("the gap", x.count(2), 0);
      due("nothing is left", x.take(0), -3);
      due("status()", x.status(), -3);
    }

    sentence("A YEAR: all TURN that have the TRADE of one with a lower number (place 2, RACE 0; by rising numbers, each as it is then); it is the next YEAR (at 999 it can't be)");
    NoSecond y = new NoSecond();
    due("nobody turns", y.pass(), 0);
    for (int p = 0; p < 7; p++) y.person(9, -1);
    due("all but the first", y.pass(), 6);
    for (int p = 1; p < 7; p++) due("0 behind 9", y.of(p, 0), 0);
    due("the first stays", y.of(0, 0), 9);
    due("all but two", y.pass(), 5);
    y.terms(0, 998);
    due("to 999", y.pass(), 4);
    due("the year", y.count(14), 999);
    NoSecond z = new NoSecond();
    for (int t : new int[] {3, 3, 4, 5}) z.person(t, -1);
    due("one behind the other", z.pass(), 3);
    due("trades", z.of(0, 0) * 1000 + z.of(1, 0) * 100 + z.of(2, 0) * 10 + z.of(3, 0), 3456);
    Support.rule(z, "turns place + race * 5 + year");
    z.terms(0, 1);
    z.person(3, -1);
    due("one", z.pass(), 1);
    due("place 2, race 0, the year that was", z.of(4, 0), 3);
    due("to the trade that she had", z.pass(), 1);
    due("place 2, race 0, the year that was", z.of(4, 0), 4);
    Bounds.refused("at 999", () -> { NoSecond w = Bounds.rich(); w.terms(0, 999); w.enter(0); return w; }, NoSecond::pass, -3);
    Bounds.granted("at 998", () -> { NoSecond w = Bounds.rich(); w.terms(0, 998); return w; }, NoSecond::pass, 0);
  }

  private static void onPaper() {
    sentence("To BE at a PLACE 1 .. 7 of a RACE: the fewest others whose entries would be changed (ENTERED ones out, others in) by which one, ENTERED then, is PLACED so; the lowest as bits");
    NoSecond x = Support.isles(9, 8, 7, 6, 5, 4, 3);
    for (int place = 1; place <= 7; place++) {
      due("in: how many", x.be(6, 0, place, 0), place - 1);
      due("in: the lowest", x.be(6, 0, place, 1), (1 << place - 1) - 1);
    }
    due("place 0", x.be(6, 0, 0, 0), -1);
    due("place 8", x.be(6, 0, 8, 0), -1);
    due("nobody is ahead", x.be(0, 0, 1, 1), 0);
    due("nobody is ahead", x.be(0, 0, 2, 1), -1);
    due("one is ahead", x.be(1, 0, 2, 1), 1);
    due("one is ahead", x.be(1, 0, 3, 1), -1);
    for (int p = 0; p < 6; p++) x.enter(p);
    for (int place = 1; place <= 7; place++) {
      due("out: how many", x.be(6, 0, place, 0), 7 - place);
      due("out: the lowest", x.be(6, 0, place, 1), (1 << 7 - place) - 1);
    }
    x.enter(0);
    x.enter(2);
    due("some in, the lowest", x.be(6, 0, 6, 1), 1);
    due("as it is", x.be(6, 0, 5, 1), 0);
    due("some out, the lowest", x.be(6, 0, 4, 1), 2);
    due("nothing is changed", x.count(1), 4);

    sentence("To LOOK at: the RACE of which the most of these that would TURN alike are as few as can be; the lowest");
    NoSecond y = Support.isles(0, 0, 0, 0);
    due("all alike", y.look(0) * 10 + y.look(1), 4);
    Support.rule(y, "turns 1;turns person/3 if race=1;turns person/2 if race=2;turns person%2 if race=3");
    due("the lower of two", y.look(0) * 10 + y.look(1), 22);
    Support.rule(y, "turns person/2;turns person if race=3");
    due("the last race", y.look(0) * 10 + y.look(1), 31);

    sentence("A RANKING of all PEOPLE: the fewest BEATS by which one beats another one that is ranked ahead of it; the first as a row");
    NoSecond z = Support.isles(0, 0, 0);
    due("none", z.ranking(0), 0);
    due("the first row", z.ranking(1) * 100 + z.ranking(2) * 10 + z.ranking(3), 12);
    z.beats(2, 0, 1);
    due("none broken", z.ranking(0), 0);
    due("the first row", z.ranking(1) * 100 + z.ranking(2) * 10 + z.ranking(3), 120);
    z.beats(0, 2, 1);
    due("one of both ways", z.ranking(0), 1);
    due("the first row", z.ranking(1) * 100 + z.ranking(2) * 10 + z.ranking(3), 12);
  }

  private static void onPaperToo() {
    sentence("threes of which the first beats the second, the second the third, the third the first (each three once)");
    NoSecond x = Support.isles(0, 0, 0, 0, 0, 0, 0);
    x.beats(4, 5, 1);
    x.beats(5, 6, 1);
    due("two of three", x.circles(), 0);
    x.beats(6, 4, 1);
    due("three", x.circles(), 1);
    x.beats(4, 6, 1);
    x.beats(6, 5, 1);
    x.beats(5, 4, 1);
    due("both ways", x.circles(), 1);
    for (int p = 0; p < 7; p++) for (int q = 0; q < 7; q++) if (p != q) x.beats(p, q, 1);
    due("all of seven", x.circles(), 35);
    due("two people", Support.isles(0, 0).circles(), 0);

    sentence("RACES to unlike PEOPLE not BARRED, ENTERED or not, one each or nobody, so that they RUN most together; the first as a row by RACES (7: nobody)");
    NoSecond y = new NoSecond();
    due("no people", y.crowned(0), 0);
    for (int n = 1; n <= 5; n++) {
      y.person(0, -1);
      due("all run by 0", y.crowned(0), 0);
      for (int r = 0; r < 4; r++) due("the lowest numbers", y.crowned(1 + r), r < n ? r : 7);
    }
    y.strength(4, 3, 9);
    due("most", y.crowned(0), 9);
    due("she", y.crowned(4), 4);
    y.strength(4, 0, 9);
    due("one race each", y.crowned(0), 9);
    due("the first as a row", y.crowned(1) * 1000 + y.crowned(2) * 100 + y.crowned(3) * 10 + y.crowned(4), 124);
    Support.rule(y, "bars");
    due("all barred", y.crowned(0), 0);
    for (int r = 0; r < 4; r++) due("nobody", y.crowned(1 + r), 7);
    Support.rule(y, "bars if not person = 6 - race or race = 3; runs 99");
    due("two of four", y.crowned(0), 99);
    due("she alone", y.crowned(3), 4);

    sentence("from each of those without PARENTS, by rising numbers, itself, then each of its children likewise; but the second child of anybody, the second without PARENTS, stands aside itself (not its children)");
    NoSecond z = new NoSecond();
    int[] parents = {-1, -1, 1, 1, 1, 3, -1};
    for (int p : parents) z.person(0, p);
    int[] line = {0, 2, 5, 4, 6};
    due("how many", z.heir(-1), 5);
    for (int i = 0; i < 5; i++) due("heir " + i, z.heir(i), line[i]);
    due("one alone", Support.isles(0).heir(-1), 1);
    due("the second stands aside", Support.isles(0, 0).heir(-1), 1);
    due("the third does not", Support.isles(0, 0, 0).heir(1), 2);
    int[] roots = {0, 2, 3, 4, 5, 6};
    NoSecond seven = Support.isles(0, 0, 0, 0, 0, 0, 0);
    due("seven without parents", seven.heir(-1), 6);
    for (int i = 0; i < 6; i++) due("seven without parents", seven.heir(i), roots[i]);
    NoSecond mother = new NoSecond();
    for (int p = 0; p < 7; p++) mother.person(0, p == 0 ? -1 : 0);
    int[] children = {0, 1, 3, 4, 5, 6};
    for (int i = 0; i < 6; i++) due("six children", mother.heir(i), children[i]);
    NoSecond chain = new NoSecond();
    for (int p = 0; p < 7; p++) chain.person(0, p - 1);
    for (int i = 0; i < 7; i++) due("a chain", chain.heir(i), i);
  }

  private static void numbersOnPaper() {
    sentence("LADDERS of n rungs: in how many ways one comes from the ground to the n-th by steps of 1 .. k rungs, never on the second (n 2: 0 ways)");
    NoSecond x = new NoSecond();
    long[][] ways = {{1, 0, 0, 0, 0, 0, 0, 0}, {1, 0, 1, 1, 2, 3, 365435296162L, 591286729879L}, {1, 0, 2, 3, 5, 10, 1040198734492326L, 1913223755142267L},
        {1, 0, 2, 4, 7, 13, 17097984883026512L, 32957425517903777L}, {1, 0, 2, 4, 8, 15, 54324893432359544L, 106799928449301153L}};
    int[] rungs = {1, 2, 3, 4, 5, 6, 59, 60};
    for (int k = 1; k <= 5; k++) for (int i = 0; i < rungs.length; i++) due("ladder(" + rungs[i] + ", " + k + ")", x.ladder(rungs[i], k), ways[k - 1][i]);

    sentence("NEVER: PEOPLE who would be second in no RACE, whoever of the others ENTERED (they themselves ENTERED)");
    due("nobody", x.never(), 0);
    due("one alone", Support.isles(0).never(), 1);
    due("two alike", Support.isles(0, 0).never(), 1);
    NoSecond y = Support.isles(0, 9);
    due("each second somewhere", y.never(), 0);
    Support.rule(y, "bars if person = 0");
    due("barred herself; alone then", y.never(), 3);
    Support.rule(y, "bars if person = 0 and race < 3");
    due("second in the last race alone", y.never(), 1);

    sentence("FEW: the chance, of 1,000,000,000,000 parts, that of n runners, each of whom trips in TRIPS of ten, fewer than k do: runner by runner, by how many did, each part times the rest by ten and times TRIPS by ten (one more), both cut; of those below k all together");
    long all = 1000000000000L;
    NoSecond z = new NoSecond();
    long[][] few = {{1, 0, all}, {1, 1, 900000000000L}, {2, 1, all}, {2, 2, 990000000000L}, {1, 99, 29512660L}, {20, 19, 999999999909L}, {20, 99, 998255635351L}, {19, 99, 995913661445L}};
    for (long[] f : few) due("few(" + f[0] + ", " + f[1] + ")", z.few((int) f[0], (int) f[1]), f[2]);
    z.terms(1, 0);
    due("never", z.few(1, 99), all);
    z.terms(1, 10);
    due("always", z.few(1, 1), 0);
    due("always", z.few(20, 19), all);
    due("always", z.few(20, 20), 0);
    z.terms(1, 9);
    due("nearly always", z.few(20, 20), 878423345307L);
    due("nearly always", z.few(1, 19), 0);

    sentence("COMPARED: who is PLACE 1 of a RACE by a LAW in place of that in FORCE (NONE: none)");
    NoSecond w = Support.isles(1, 2);
    Support.rule(w, "runs 5 - strength");
    Support.law(w, "bars if person = 1");
    w.enter(0);
    w.enter(1);
    due("none", w.compare(-1, 0), 1);
    due("the one in force", w.compare(0, 0), 0);
    due("the other one", w.compare(1, 0), 0);
    due("it stays", w.count(13), 0);
  }

  // ---- IV

  private static void centuries() {
    sentence("CENTURIES with a SEED, n 1 .. 60, on paper: s is the SEED (0 .. 1,000,000); a DRAW of m: s becomes (s times 1103 and 12345) modulo 1,000,003, it is s modulo m");
    int[][] runs = {{0, 1, 0, 0, 1}, {0, 2, 1, 3, 0}, {0, 59, 9, 27, 1}, {0, 60, 9, 27, 0}, {1, 60, 7, 21, 0}, {5, 59, 5, 15, 1}, {5, 60, 6, 18, 0},
        {999999, 60, 6, 18, 1}, {1000000, 1, 0, 0, 0}, {1000000, 2, 0, 0, 1}, {1000000, 59, 5, 15, 0}, {1000000, 60, 5, 15, 1}};
    for (int[] r : runs) {
      NoSecond x = Support.isles(0);
      due("centuries(" + r[0] + ", " + r[1] + ")", x.centuries(r[0], r[1]), r[2]);
      due("prizes", x.drawn(0, 1), r[3]);
      due("entered", x.drawn(0, 2), r[4]);
      due("on paper", x.count(14) + x.count(3) + x.count(1), 0);
    }
    int[][] lawful = {{0, 29}, {5, 30}, {1000000, 13}};
    for (int[] l : lawful) {
      NoSecond x = Support.isles(0);
      Support.rule(x, "wins 2 * race + 1");
      x.centuries(l[0], 60);
      due("the races that were drawn from " + l[0], x.drawn(0, 1), l[1]);
    }
    for (int n : new int[] {0, 61, -1, LEAST, MOST}) Bounds.refused("n " + n, Bounds::rich, x -> x.centuries(0, n), -1);
    for (int s : new int[] {-1, 1000001, LEAST, MOST}) Bounds.refused("seed " + s, Bounds::rich, x -> x.centuries(s, 1), -1);

    sentence("Each time (at YEAR 999 it ends) DRAWS of PEOPLE, of 4, of 4: at 0, 1 (the last DRAW) she ENTERS, or no more, at 2 there is the RACE that is the second DRAW, if anybody runs, at 3 she TAKES the GAP; then the YEAR passes");
    int[][] years = {{0, 10, 9, 8, 15, 3}, {939, 10, 9, 8, 15, 3}, {940, 10, 9, 8, 15, 1}, {997, 1, 3, 0, 0, 0}, {998, 0, 0, 0, 0, 1}, {999, 0, 0, 0, 0, 0}};
    for (int[] y : years) {
      NoSecond x = new NoSecond();
      for (int t : new int[] {0, 0, 9}) x.person(t, -1);
      x.terms(0, y[0]);
      due("races from " + y[0], x.centuries(0, 60), y[1]);
      for (int p = 0; p < 3; p++) due("prizes", x.drawn(p, 1), y[2 + p]);
      due("entered", x.drawn(0, 2) + 2 * x.drawn(1, 2) + 4 * x.drawn(2, 2), y[5]);
      due("trade", x.drawn(1, 0), y[0] == 999 ? 0 : y[0] > 990 ? 1 : 2);
      due("the year", x.count(14), y[0]);
    }
  }

  private static void rows() {
    sentence("the TAPE's bytes by fives: a PERSON, STRENGTHS for RACES 0 .. 3: she has these; one that can't be, one within which the TAPE ends is a BLOT: nothing");
    int[][] rows = {{1, 9, 0, 9, 0}, {0, 0, 0, 0, 0}, {2, 0, 0, 0, 0}, {255, 0, 0, 0, 0}, {1, 10, 0, 0, 0}, {1, 0, 0, 0, 10}, {1, 0, 255, 0, 0}, {1}, {1, 2}, {1, 2, 3, 4}};
    for (int i = 0; i < rows.length; i++) {
      NoSecond x = Support.isles(5, 6);
      due("told " + i, Support.row(x, rows[i]), i < 2 ? 1 : 0);
      due("blots " + i, x.blots(), i < 2 ? 0 : 1);
      due("she has " + i, x.of(1, 4) * 1000 + x.of(1, 5) * 100 + x.of(1, 6) * 10 + x.of(1, 7), i == 0 ? 9090 : 6000);
      due("status() " + i, x.status(), 0);
      due("the tape " + i, x.count(7), 0);
    }
    NoSecond x = Support.isles(5, 6);
    due("one more byte", Support.row(x, 0, 1, 2, 3, 4, 1), 1);
    due("is a blot", x.blots(), 1);
    due("four more bytes", Support.row(x, 0, 1, 2, 3, 4, 1, 1, 1, 1), 1);
    due("are a blot", x.blots(), 1);
    due("behind a blot", Support.row(x, 7, 1, 2, 3, 4, 1, 1, 1, 1, 1), 1);
    due("she has it", x.of(1, 7), 1);
    int[] full = new int[400];
    for (int i = 0; i < 400; i++) full[i] = i % 5 == 0 ? i % 2 : i % 10;
    due("a full tape", Support.row(x, full), 80);
  }

  private static void images() {
    sentence("IMAGES 0, 1 keep all but the TAPE, FAULT, BLOTS, where ORDERS stopped, what can be undone (nothing, behind back()), the latest CENTURIES");
    for (int k : new int[] {-1, 2, LEAST, MOST}) {
      Bounds.refused("image " + k, Bounds::rich, x -> x.image(k), -1);
      Bounds.refused("back " + k, Bounds::rich, x -> x.back(k), -1);
    }
    for (int k = 0; k < 2; k++) {
      int n = k;
      Bounds.granted("image " + k, Bounds::rich, x -> x.image(n), 0);
      Bounds.granted("back " + k, () -> { NoSecond x = Bounds.rich(); x.image(n); return x; }, x -> x.back(n), 0);
    }
    NoSecond x = Bounds.rich();
    due("it could be undone", x.count(6), 7);
    int fault = x.fault(), stopped = x.stopped(), drawn = x.drawn(2, 1);
    due("back", x.back(1), 0);
    due("the tape stays", x.count(7), 16);
    due("the fault stays", x.fault(), fault);
    due("the blots stay", x.blots(), 1);
    due("where orders stopped stays", x.stopped(), stopped);
    due("the latest centuries stay", x.drawn(2, 1), drawn);
    due("nothing can be undone", x.undo(), -3);
    due("all else is as it was", x.count(14) + x.count(16) + x.count(1) + x.count(2) + x.count(3), 0);
  }

  /** Empty isles are image 1, some others image 0; then all is made otherwise. */
  private static NoSecond twoImages(boolean otherwise) {
    NoSecond x = new NoSecond();
    x.image(1);
    for (int[] p : new int[][] {{3, -1}, {4, 0}, {9, 0}, {5, 1}}) x.person(p[0], p[1]);
    Support.row(x, 0, 1, 2, 3, 4, 1, 5, 6, 7, 8, 2, 9, 8, 7, 6, 3, 5, 4, 3, 2);
    for (int p = 0; p < 4; p++) x.beats(p, (p + 1) % 4, 1);
    x.beats(0, 2, 1);
    x.seen(1, 3);
    x.seen(3, 5);
    Support.rule(x, "runs strength * 7 % 10;bars if person = 1 and race = 3;turns race + 2;turns 9 if person = 1");
    Support.law(x, "runs 50 - person");
    x.terms(0, 7);
    x.terms(1, 3);
    x.terms(2, 8);
    Support.orders(x, "enter 0;enter 1;enter 2;enter 3;race 0;enter 1;enter 3");
    x.image(0);
    if (otherwise) {
      x.back(1);
      for (int p = 0; p < 7; p++) x.person(p, p - 1);
      Support.row(x, 0, 9, 9, 9, 9, 1, 0, 0, 0, 0, 2, 1, 1, 1, 1, 3, 9, 9, 9, 9);
      for (int p = 6; p > 0; p--) x.beats(p, p - 1, 1);
      for (int i = 0; i < 6; i++) { x.seen(i % 2, i); Support.law(x, "runs 3;bars if race = " + i % 4); }
      x.force(4);
      x.terms(0, 900);
      x.terms(1, 9);
      x.terms(2, 2);
      Support.orders(x, "enter 0;enter 2;enter 5;race 1;take 6;enter 0;enter 6;pass times 3");
    }
    return x;
  }

  private static void backToAll() {
    sentence("BACK to one all that it keeps is as it was then (IMAGES stay)");
    NoSecond x = twoImages(true), twin = twoImages(false);
    due("back to 0", x.back(0) + twin.back(0), 0);
    // The texts that were read last were good ones, so that only what images keep can be unlike.
    Bounds.same("as it was then", x, twin);
    NoSecond again = twoImages(true);
    again.back(0);
    again.back(1);
    NoSecond empty = new NoSecond();
    empty.image(1);
    for (int what = 0; what < 17; what++) due("empty again: count(" + what + ")", again.count(what), empty.count(what));
    due("the first one", again.person(8, -1), 0);
    due("has nothing", again.of(0, 1) + again.of(0, 2) + again.of(0, 4) + again.of(0, 5) + again.of(0, 6) + again.of(0, 7), 0);
    due("image 0 stays", again.back(0), 0);
    NoSecond other = twoImages(false);
    other.back(0);
    Bounds.same("image 0 stays", again, other);
  }

  public static void main(String[] args) throws Exception {
    people(); whatPeopleHave(); whatElseThereIs(); orderOfRefusals();
    tape(); tokens(); clauses(); numbers(); parts(); brackets(); faults(); broken(); laws(); holds(); wins(); ordersText(); ordersRun();
    placed(); moves(); onPaper(); onPaperToo(); numbersOnPaper();
    centuries(); rows(); images(); backToAll();
    Bounds.close("BoundsTermsTest", "## Terms", "The constants:");
  }
}
