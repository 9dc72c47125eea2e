import java.nio.file.Files;
import java.nio.file.Path;
import java.util.ArrayList;
import java.util.Arrays;
import java.util.List;
import java.util.function.Supplier;
import java.util.function.ToIntFunction;
import java.util.regex.Matcher;
import java.util.regex.Pattern;

/**
 * What the tests of boundaries share. Each check stands behind a sentence of the document, and a refused call is looked
 * at from all sides: its answer, status(), count(8 .. 12), and that nothing else is other than with a twin without it.
 */
final class Bounds {
  static final int LEAST = Integer.MIN_VALUE, MOST = Integer.MAX_VALUE;
  private static final int[] BY = {-1, -2, -3, -5, -6};
  // What makes a sentence one that names a boundary: every such place of the document has to be quoted by a test.
  private static final Pattern MARKS =
      Pattern.compile("\\d[\\d,]*|NONE|BROKEN|REFUSED|at most|at first|lowest|empty|nobody|nothing|can't|without|no such|fewest|fewer");

  private static final List<String> QUOTES = new ArrayList<>();
  private static String now = "";

  /** The sentence that the next checks are of, in the document's own words. */
  static void sentence(String quote) {
    QUOTES.add(quote);
    now = quote.length() > 50 ? quote.substring(0, 50) + ".." : quote;
  }

  static void due(String what, long got, long want) { Support.due("[" + now + "] " + what, got, want); }

  // ---- calls that are refused, and others

  static void refused(String what, Supplier<NoSecond> made, ToIntFunction<NoSecond> call, int by) {
    NoSecond x = made.get(), twin = made.get();
    countedOnce(what, x, twin, call.applyAsInt(x), by);
    same(what, x, twin);
    goodLater(what, made.get(), call, by);
  }

  /** Of law(), orders(): the tape is empty then, and what they tell of the text is theirs; nothing else is changed. */
  static void refusedText(String what, Supplier<NoSecond> made, ToIntFunction<NoSecond> call, int by, int fault, int stopped) {
    NoSecond x = made.get(), twin = made.get();
    countedOnce(what, x, twin, call.applyAsInt(x), by);
    due(what + ": fault()", x.fault(), fault);
    due(what + ": stopped()", x.stopped(), stopped);
    due(what + ": the tape", x.count(7), 0);
    twin.end(0);
    List<Long> all = told(x), want = told(twin);
    for (int i = FROM_TEXT; i < TO_TEXT; i++) { all.set(i, 0L); want.set(i, 0L); }
    due(what + ": changes nothing else: " + firstUnlike(all, want), all.equals(want) ? 1 : 0, 1);
    goodLater(what, made.get(), call, by);
  }

  static void granted(String what, Supplier<NoSecond> made, ToIntFunction<NoSecond> call, int answer) {
    NoSecond x = made.get(), twin = made.get();
    due(what, call.applyAsInt(x), answer);
    due(what + ": status()", x.status(), 0);
    for (int i = 0; i < 5; i++) due(what + ": count(" + (8 + i) + ")", x.count(8 + i), twin.count(8 + i));
  }

  /** A call that tells NONE but is none of those that are refused: status() and all counts stay. */
  static void toldNone(String what, Supplier<NoSecond> made, ToIntFunction<NoSecond> call) {
    NoSecond x = made.get(), twin = made.get();
    due(what, call.applyAsInt(x), -1);
    due(what + ": status()", x.status(), twin.status());
    for (int i = 0; i < 5; i++) due(what + ": count(" + (8 + i) + ")", x.count(8 + i), twin.count(8 + i));
    same(what, x, twin);
  }

  private static void countedOnce(String what, NoSecond x, NoSecond twin, int got, int by) {
    due(what, got, by);
    due(what + ": status()", x.status(), by);
    for (int i = 0; i < 5; i++) due(what + ": count(" + (8 + i) + ")", x.count(8 + i), twin.count(8 + i) + (BY[i] == by ? 1 : 0));
    due(what + ": status() again", x.status(), by);
  }

  /** A call behind it that is not refused makes status() 0 and leaves the counts, also behind back(). */
  private static void goodLater(String what, NoSecond x, ToIntFunction<NoSecond> call, int by) {
    call.applyAsInt(x);
    int[] counts = new int[5];
    for (int i = 0; i < 5; i++) counts[i] = x.count(8 + i);
    x.image(0);
    due(what + ": status() behind a good call", x.status(), 0);
    x.back(0);
    for (int i = 0; i < 5; i++) due(what + ": count(" + (8 + i) + ") behind back()", x.count(8 + i), counts[i]);
  }

  /** That one can't be told from the other by what it answers; both are spoilt then. */
  static void same(String what, NoSecond x, NoSecond twin) {
    List<Long> all = told(x), want = told(twin);
    due(what + ": changes nothing: " + firstUnlike(all, want), all.equals(want) ? 1 : 0, 1);
  }

  private static String firstUnlike(List<Long> all, List<Long> want) {
    for (int i = 0; i < Math.min(all.size(), want.size()); i++) {
      if (!all.get(i).equals(want.get(i))) return "answer " + i + " is " + all.get(i) + ", was " + want.get(i);
    }
    return "as many";
  }

  private static final int FROM_TEXT = 12, TO_TEXT = 14;

  /** All that can be asked of an object by some 270 calls; it is spoilt then. */
  private static List<Long> told(NoSecond x) {
    List<Long> all = new ArrayList<>();
    for (int what = 0; what < 17; what++) if (what < 8 || what > 12) all.add((long) x.count(what));
    all.addAll(Arrays.asList((long) x.fault(), (long) x.stopped(), (long) x.blots()));
    for (int p = 0; p < 7; p++) for (int what = 0; what < 16; what++) all.add((long) x.of(p, what));
    for (int r = 0; r < 4; r++) for (int what = 0; what < 8; what++) all.add((long) x.placed(r, what));
    all.addAll(Arrays.asList((long) x.canBe(), (long) x.look(0), (long) x.look(1), (long) x.circles(), (long) x.never(), x.few(1, 1)));
    for (int what = 0; what < 8; what++) all.add((long) x.ranking(what));
    for (int what = 0; what < 5; what++) all.add((long) x.crowned(what));
    for (int i = -1; i < 7; i++) all.add((long) x.heir(i));
    for (int law = -1; law < 6; law++) all.add((long) x.compare(law, 0));
    for (int p = 0; p < 7; p++) for (int what = 0; what < 3; what++) all.add((long) x.drawn(p, what));
    for (int n = 0; n < 17; n++) { all.add((long) x.undo()); all.add((long) x.count(3) + x.count(14)); }
    all.addAll(Arrays.asList((long) x.law(), (long) x.fault()));
    for (int k = 1; k >= 0; k--) { all.add((long) x.back(k)); for (int what = 0; what < 6; what++) all.add((long) x.count(what)); }
    return all;
  }

  // ---- isles to ask

  static NoSecond empty() { return new NoSecond(); }

  /** Three people, and of everything else something. */
  static NoSecond rich() {
    NoSecond x = new NoSecond();
    x.person(3, -1);
    x.person(5, 0);
    x.person(9, 0);
    Support.row(x, 0, 4, 1, 2, 3, 1, 7, 0, 9, 2, 2, 4, 4, 4, 4, 9);
    x.beats(0, 1, 1);
    x.beats(1, 2, 1);
    x.beats(2, 0, 1);
    x.seen(1, 4);
    Support.law(x, "runs strength*3+person;bars if person=2 and race=3;wins place+1");
    x.force(0);
    x.image(1);
    x.terms(2, 4);
    x.centuries(77, 9);
    for (int p = 0; p < 3; p++) x.enter(p);
    x.race(0);
    x.enter(1);
    x.enter(2);
    x.pass();
    Support.orders(x, "pass;take 9");
    Support.law(x, "runs 1 +");
    Support.tape(x, "bars if race = 9");
    return x;
  }

  /** No room for anybody. */
  static NoSecond seven() {
    NoSecond x = rich();
    for (int p = 3; p < 7; p++) x.person(p, p - 1);
    x.enter(6);
    return x;
  }

  /** Nothing that was seen, and no law, has room; a text waits. */
  static NoSecond crowded() {
    NoSecond x = rich();
    for (int i = 1; i < 6; i++) { Support.law(x, "bars"); x.seen(i % 4, i); }
    Support.tape(x, "runs 7");
    return x;
  }

  // ---- texts

  static int read(NoSecond x, boolean law, String text) { return law ? Support.law(x, text) : Support.orders(x, text); }

  /** Where the text has its fault, and that it is refused; -1: it is read. */
  static void fault(boolean law, String text, int at) {
    String what = (law ? "law" : "orders") + " \"" + text + "\"";
    NoSecond x = new NoSecond();
    x.person(0, -1);
    int told = read(x, law, text);
    due(what + ": fault()", x.fault(), at);
    due(what + ": refused", told == -6 ? 1 : 0, at == -1 ? 0 : 1);
    due(what + ": count(12)", x.count(12), at == -1 ? 0 : 1);
    due(what + ": LAWS", x.count(5), law && at == -1 ? 1 : 0);
    due(what + ": the tape", x.count(7), 0);
    if (at != -1) due(what + ": status()", x.status(), -6);
    if (at != -1) due(what + ": stopped()", x.stopped(), -1);
  }

  static void faultOfBoth(String law, String orders, int atLaw, int atOrders) {
    fault(true, law, atLaw);
    fault(false, orders, atOrders);
  }

  /** How person 0 runs in race 1 by "runs ..". Her strength, 6, tells that no clause holds. */
  static void runs(String rest, int want) {
    NoSecond x = new NoSecond();
    x.person(0, -1);
    x.strength(0, 1, 6);
    Support.rule(x, "runs " + rest);
    due("runs " + rest, x.of(0, 9), want);
  }

  // ---- the document

  private static String plain(String text) { return text.replaceAll("```\\w*", " ").replaceAll("`", "").replaceAll("\\s+", " "); }

  /** That every quote is in the document, and that every mark of a boundary between two headings is in a quote. */
  static void close(String name, String from, String to) throws Exception {
    Path file = Path.of("../shared/DOC.md");
    if (Files.exists(file)) quoted(Files.readString(file), from, to);
    else System.out.println("(the document is not here: quotes are not compared with it)");
    Support.close(name);
  }

  private static void quoted(String document, String from, String to) {
    int start = document.indexOf(from), end = document.indexOf(to);
    Support.so("the document has " + from + " and " + to, start >= 0 && end > start);
    if (start < 0 || end <= start) return;
    String text = plain(document.substring(start, end).replaceAll("(?m)^##.*$", " "));
    boolean[] is = new boolean[text.length()];
    for (String quote : QUOTES) {
      int at = text.indexOf(plain(quote));
      Support.so("quoted from the document, from one place there: " + quote, at >= 0 && at == text.lastIndexOf(plain(quote)));
      if (at >= 0) Arrays.fill(is, at, at + plain(quote).length(), true);
    }
    Matcher mark = MARKS.matcher(text);
    while (mark.find()) {
      String around = text.substring(Math.max(0, mark.start() - 40), Math.min(text.length(), mark.end() + 40));
      Support.so("a test quotes .." + around + "..", is[mark.start()] && is[mark.end() - 1]);
    }
  }
}
