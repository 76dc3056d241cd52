import java.util.ArrayList;
import java.util.Arrays;
import java.util.LinkedHashMap;
import java.util.List;
import java.util.Map;
import java.util.TreeSet;

/**
 * Each sentence of the document that names an edge has a test of its own here, called by its words.
 * What is done "in thought" is held against the same done truly by calls; small ranges are gone through whole.
 */
public final class SentenceTest {
  static final int FAR = 1000000000;
  static final long FARTHER = 4000000000000000000L;
  static final int LEAST = Integer.MIN_VALUE;
  static final int MOST = Integer.MAX_VALUE;
  static final int[] ORDER = {2, 2, 3, 4, 5, 6, 8};
  static int wrong = 0;
  static int asked = 0;
  static int sentences = 0;
  static String sentence = "";

  interface Call { long on(ExchangeRows x); }

  static void sentence(String words) { sentence = words; sentences++; }

  static void due(String call, long got, long want) {
    asked++;
    if (got == want) return;
    wrong++;
    if (wrong <= 40) System.out.println("SentenceTest: \"" + sentence + "\": " + call + " answered " + got + ", due is " + want);
  }
  static void due(String call, String got, String want) {
    due(call + ": " + got + " for " + want, got.equals(want) ? 1 : 0, 1);
  }

  // ---- objects as the tests need them

  static ExchangeRows row(int law, int figure, int... starts) {
    ExchangeRows x = new ExchangeRows();
    addRow(x, law, figure, starts);
    return x;
  }
  static void addRow(ExchangeRows x, int law, int figure, int... starts) {
    int r = x.row(law, figure);
    for (int i = 0; i < starts.length; i++) x.start(r, i, starts[i]);
  }
  static int walk(ExchangeRows x, String words) {
    for (int i = 0; i < words.length(); i++) x.letter(words.charAt(i));
    return x.walk();
  }
  static ExchangeRows seed(String words) {
    ExchangeRows x = new ExchangeRows();
    if (words.isEmpty()) return x;
    due("a seed by " + words, walk(x, words) > 0 ? 1 : 0, 1);
    return x;
  }
  static void fill(ExchangeRows x, int list, int... v) {
    x.list(list, v.length);
    for (int i = 0; i < v.length; i++) x.put(list, i, v[i]);
  }
  static long[] terms(ExchangeRows x, int r) {
    long[] t = new long[x.of(r, 3)];
    for (int n = 0; n < t.length; n++) t[n] = x.term(r, n);
    return t;
  }
  static void ends(String what, ExchangeRows x, int length, int why, int left) {
    due(what + " LENGTH", x.of(0, 3), length);
    due(what + " WHY", x.of(0, 4), why);
    due(what + " LEFT", x.of(0, 5), left);
    due(what + " the last", x.term(0, length - 1) < FAR ? 1 : 0, 1);
    due(what + " behind it", x.term(0, length), FAR + 3);
  }
  static String values(ExchangeRows x) {
    StringBuilder b = new StringBuilder();
    for (int i = 0; i < x.count(1); i++) b.append(x.value(i, 0)).append('/').append(x.value(i, 1)).append(' ');
    return b.toString();
  }
  static String entries(ExchangeRows x) {
    StringBuilder b = new StringBuilder();
    for (int i = 0; i < x.count(1); i++) for (int j = 0; j < x.count(1); j++) b.append(x.entry(i, j)).append(' ');
    return b.toString();
  }
  static String degrees(ExchangeRows x) {
    StringBuilder b = new StringBuilder();
    for (int i = 0; i < x.count(1); i++) for (int c = 0; c < x.count(1); c++) b.append(x.power(i, c)).append(' ');
    return b.toString();
  }
  /** Tells each START anew as it is, which leaves the SEED BEGUN: for objects that are asked no more. */
  static String starts(ExchangeRows x) {
    StringBuilder b = new StringBuilder();
    for (int i = 0; i < x.count(1); i++) {
      int was = x.begins(i, 1);
      x.begins(i, was);
      b.append(was).append(' ');
    }
    return b.toString();
  }
  static String begun(int r) {
    StringBuilder b = new StringBuilder();
    for (int i = 0; i < r; i++) for (int c = 0; c < r; c++) b.append(i == c ? "-1 " : "0 ");
    return b.toString();
  }
  static String zeros(int r) { return "0 ".repeat(r * r); }

  // ---- rows

  static void rowsFourAtMost() {
    sentence("ROWS have numbers, 0 .. as they come, 4 at most");
    ExchangeRows x = new ExchangeRows();
    for (int r = 0; r < 4; r++) {
      due("none ahead of it", x.of(r, 0), -1);
      due("row", x.row(r, 9 - r), r);
      due("its LAW", x.of(r, 0), r);
      due("its FIGURE", x.of(r, 1), 9 - r);
      due("how many", x.count(0), r + 1);
    }
    for (int law = 0; law < 7; law++) due("a fifth", x.row(law, 0), -6);
    due("how many", x.count(0), 4);
    int[] none = {4, 5, -1, LEAST, MOST};
    x.list(0, 3);
    for (int r : none) {
      due("start", x.start(r, 0, 1), -1);
      due("of", x.of(r, 0), -1);
      due("term", x.term(r, 0), FAR + 1);
      due("kept", x.kept(r, 0, 0), FARTHER + 1);
      due("stays", x.stays(r), -1);
      due("common", x.common(r), -1);
      due("divided", x.divided(r, 2), -1);
      due("unlike", x.unlike(r, 0), -1);
      due("unlike, the other", x.unlike(0, r), -1);
      due("judge", x.judge(0, r), -1);
      due("lays", x.lays(0, 0, r), -1);
    }
  }

  static void figures0To9() {
    sentence("a FIGURE F (0 .. 9)");
    for (int law = 0; law < 7; law++) {
      for (int f = 0; f < 10; f++) {
        ExchangeRows x = new ExchangeRows();
        due("row", x.row(law, f), 0);
        due("FIGURE", x.of(0, 1), f);
      }
      ExchangeRows x = new ExchangeRows();
      due("-1", x.row(law, -1), -4);
      due("the least", x.row(law, LEAST), -4);
      due("10", x.row(law, 10), -6);
      due("the greatest", x.row(law, MOST), -6);
      due("no row", x.count(0), 0);
    }
    ExchangeRows x = new ExchangeRows();
    int[] none = {-1, 7, LEAST, MOST};
    for (int law : none) for (int f : new int[] {-1, 0, 10}) due("no LAW " + law, x.row(law, f), -2);
  }

  static void startsAsManyAsTheOrder() {
    sentence("as many STARTS (1 .. 9 each; 1 at first) as the ORDER of the LAW");
    for (int law = 0; law < 7; law++) {
      for (int i = 0; i < ORDER[law]; i++) {
        ExchangeRows x = row(law, 1);
        due("first 1", x.term(0, i), 1);
        int was = 1;
        for (int v = 9; v >= 1; v--) {
          due("was", x.start(0, i, v), was);
          due("is a(i)", x.term(0, i), v);
          was = v;
        }
        x.start(0, i, 9);
        due("0", x.start(0, i, 0), -4);
        due("the least", x.start(0, i, LEAST), -4);
        due("10", x.start(0, i, 10), -6);
        due("the greatest", x.start(0, i, MOST), -6);
        due("still", x.start(0, i, 1), 9);
      }
      ExchangeRows x = row(law, 1);
      due("i -1", x.start(0, -1, 1), -4);
      due("i the least", x.start(0, LEAST, 10), -4);
      due("i of the ORDER", x.start(0, ORDER[law], 1), -6);
      due("i of the ORDER, v 0", x.start(0, ORDER[law], 0), -4);
      due("i the greatest", x.start(0, MOST, 9), -6);
      due("all are 1", Arrays.toString(Arrays.copyOf(terms(x, 0), ORDER[law])), Arrays.toString(Arrays.copyOf(terms(row(law, 1), 0), ORDER[law])));
    }
  }

  /** For each LAW the pairs of terms behind n whose products are added; those in F's place come F times. */
  static final int[][][] ONCE = {{}, {{1, 1}}, {{1, 2}}, {{1, 3}}, {{1, 4}}, {{1, 5}, {3, 3}}, {{1, 7}, {2, 6}, {4, 4}}};
  static final int[][][] TIMES_F = {{}, {}, {}, {{2, 2}}, {{2, 3}}, {{2, 4}}, {{3, 5}}};

  static long product(int law, long f, long[] a, int n) {
    if (law == 0) return f * a[n - 1] - a[n - 2];
    long sum = law <= 2 ? f : 0;
    for (int[] p : ONCE[law]) sum += a[n - p[0]] * a[n - p[1]];
    for (int[] p : TIMES_F[law]) sum += f * a[n - p[0]] * a[n - p[1]];
    return sum;
  }

  static void eachTermByTheLaw() {
    sentence("the STARTS first, then each by the LAW from those ahead of it; a ROW ends ahead of the first term that can't be");
    for (int law = 0; law < 7; law++) {
      int lot = 1;
      for (int t = 0; t < 500; t++) {
        int[] s = new int[ORDER[law]];
        for (int i = 0; i < s.length; i++) { lot = lot * 69069 + 1; s[i] = 1 + (lot >>> 16) % (t % 2 == 0 ? 3 : 9); }
        lawHolds(law, t % 10, s);
      }
    }
  }
  static void lawHolds(int law, int f, int[] s) {
    ExchangeRows x = row(law, f, s);
    String what = "LAW " + law + " F " + f + " of " + Arrays.toString(s);
    long[] a = terms(x, 0);
    for (int n = 0; n < s.length; n++) due(what, a[n], s[n]);
    for (int n = s.length; n < a.length; n++) due(what + " at " + n, law == 0 ? a[n] : a[n] * a[n - s.length], product(law, f, a, n));
    for (long v : a) due(what + " is not above", Math.abs(v) <= 100000000 ? 1 : 0, 1);
    if (a.length == 60) { ends(what, x, 60, 0, 0); return; }
    long p = product(law, f, a, a.length), d = law == 0 ? 1 : a[a.length - s.length];
    if (p % d != 0) ends(what, x, a.length, 1, (int) (p % d));
    else { due(what + " is above", Math.abs(p / d) > 100000000 ? 1 : 0, 1); ends(what, x, a.length, 2, 0); }
  }

  static void theDivisionLeavesARest() {
    sentence("WHY 1: the division leaves a rest; LEFT: what the division leaves (above 0, less than what it is divided by)");
    ends("64 by 9 leaves 1", row(1, 0, 9, 8), 2, 1, 1);
    ends("1 by 9 leaves 1", row(1, 0, 9, 1), 2, 1, 1);
    ends("8 by 9 leaves 8", row(1, 7, 9, 1), 2, 1, 8);
    due("9 by 9 leaves none", row(1, 8, 9, 1).term(0, 2), 1);
    ends("9 by 2 leaves 1", row(1, 0, 2, 3), 2, 1, 1);
    sentence("WHY 1, 2: a term that leaves a rest is not asked how great it would be");
    // 3076 is left where it would be above 283482578, 3023 where above 603471426, 204 where above 322683480.
    ends("a FOUR", row(3, 1, 1, 5, 6, 3), 11, 1, 3076);
    ends("a FIVE", row(4, 1, 1, 1, 6, 2, 2), 14, 1, 3023);
    ends("a SIX", row(5, 0, 2, 1, 1, 7, 5, 1), 15, 1, 204);
  }

  static void above100000000() {
    sentence("WHY 2: without its sign it would be above 100000000");
    due("99999689", row(5, 6, 4, 1, 1, 3, 5, 1).term(0, 13), 99999689);
    due("99996920", row(6, 2, 1, 1, 4, 6, 8, 8, 8, 8).term(0, 15), 99996920);
    due("99935182", row(3, 3, 4, 5, 1, 1).term(0, 12), 99935182);
    due("-95929093", row(0, 4, 7, 1).term(0, 15), -95929093);
    ends("100000452", row(6, 6, 1, 2, 2, 3, 9, 3, 3, 9), 15, 2, 0);
    ends("100003437", row(4, 9, 1, 3, 6, 9, 3), 9, 2, 0);
    ends("-101219572", row(0, 6, 8, 1), 12, 2, 0);
    ends("100155846", row(0, 3, 9, 6), 19, 2, 0);
  }

  static void aheadOfA60() {
    sentence("else ahead of a(60): WHY 0; LEFT 0 with another WHY");
    for (int law = 1; law < 5; law++) ends("all 1 by LAW " + law, row(law, 0), 60, 0, 0);
    for (int f = 0; f < 3; f++) ends("a LINE by " + f, row(0, f, 9, 7), 60, 0, 0);
    due("a(59)", row(0, 2, 1, 2).term(0, 59), 60);
    due("a(60)", row(0, 2, 1, 2).term(0, 60), FAR + 3);
  }

  static void ofARow() {
    sentence("of: 0 LAW .. 6 the first n whose term is below 1 (-9)");
    due("0 is below 1", row(0, 1).of(0, 6), 2);
    due("-1 is below 1", row(0, 0).of(0, 6), 2);
    due("0 behind 9 .. 1", row(0, 2, 9, 8).of(0, 6), 9);
    due("none below", row(0, 2, 8, 9).of(0, 6), -9);
    for (int law = 1; law < 7; law++) due("none below by LAW " + law, row(law, 1, 2, 1).of(0, 6), -9);
    ExchangeRows x = row(0, 3);
    for (int what : new int[] {-1, 7, LEAST, MOST}) due("no what", x.of(0, what), -2);
    due("counted", x.count(12), 4);
  }

  static void noSuchTerm() {
    sentence("term: -4; -3 there is none");
    ExchangeRows x = row(1, 1, 1, 3);
    due("the last", x.term(0, 2), 10);
    for (int n : new int[] {3, 4, 59, 60, 61, MOST}) due("none at " + n, x.term(0, n), FAR + 3);
    for (int n : new int[] {-1, LEAST}) due("below", x.term(0, n), FAR + 4);
  }

  static void keptWhereAllTermsAre() {
    sentence("KEPT: there is none, where one of these terms isn't there");
    int[][] last = {{0, 58}, {1, 57}, {3, 56}};
    for (int[] l : last) {
      ExchangeRows x = row(l[0], l[0] == 0 ? 2 : 0);
      for (int n = 0; n <= l[1]; n++) due("below the line at " + n, x.kept(0, n, 1), 1);
      for (int n : new int[] {l[1] + 1, 59, 60, MOST}) for (int part = 0; part < 2; part++) due("none at " + n, x.kept(0, n, part), FARTHER + 3);
    }
    ExchangeRows x = row(1, 1, 1, 3);
    due("three terms", x.kept(0, 0, 0), 11);
    due("of three", x.kept(0, 0, 1), 3);
    due("two terms alone", x.kept(0, 1, 0), FARTHER + 3);
    due("no third of a square", row(1, 0, 9, 8).kept(0, 0, 0), FARTHER + 3);
    sentence("KEPT: there is none, where one of these terms is below 1");
    // 1, 1, 0, -1 ..
    due("1 and 1", row(0, 1).kept(0, 0, 0), 1);
    for (int n = 1; n < 58; n++) due("0 or below at " + n, row(0, 1).kept(0, n, 0), n % 6 == 0 ? 1 : FARTHER + 3);
    sentence("KEPT: there is none, where one of these terms is above 9999");
    aboveIs("9959 in a line", row(0, 3, 4, 3), 10, 9959);
    ExchangeRows five = row(0, 5);
    due("10009", five.term(0, 7), 10009);
    due("the one ahead of it", five.kept(0, 5, 0), -3);
    due("with 10009", five.kept(0, 6, 0), FARTHER + 3);
    aboveIs("8721 in a square", row(1, 8), 5, 8721);
    ExchangeRows square = row(1, 3);
    due("10009 of a square", square.term(0, 7), 10009);
    due("ahead of it", square.kept(0, 4, 0), 5);
    due("with it last", square.kept(0, 5, 0), FARTHER + 3);
    due("with it in the middle", square.kept(0, 6, 0), FARTHER + 3);
    due("with it first", square.kept(0, 7, 0), FARTHER + 3);
    aboveIs("9984 in a four", row(3, 6, 4, 2, 9, 1), 6, 9984);
    ExchangeRows four = row(3, 1, 2, 1, 7, 7);
    due("10003 of a four", four.term(0, 7), 10003);
    due("ahead of it", four.kept(0, 3, 0) < FARTHER ? 1 : 0, 1);
    for (int n = 4; n < 8; n++) due("with it", four.kept(0, n, 0), FARTHER + 3);
    sentence("KEPT: there is none, where the LAW is another one");
    for (int law : new int[] {2, 4, 5, 6}) for (int f = 0; f < 10; f++) due("LAW " + law, row(law, f).kept(0, 0, f % 2), FARTHER + 3);
  }
  /** The last KEPT ends with the term, and is as that at 0. */
  static void aboveIs(String what, ExchangeRows x, int n, int term) {
    due(what, x.term(0, n), term);
    int first = n - new int[] {1, 2, 0, 3}[x.of(0, 0)];
    for (int part = 0; part < 2; part++) due(what + " KEPT", x.kept(0, first, part), x.kept(0, 0, part));
    due(what + " none behind", x.kept(0, first + 1, 0), FARTHER + 3);
  }

  static void keptAsAFraction() {
    sentence("KEPT of a LINE, a SQUARE, a FOUR; all as fractions in least terms, the sign above the line; 0 as 0 by 1");
    for (int w = 1; w < 10; w++) for (int x = 1; x < 10; x++) {
      ExchangeRows line = row(0, 4, w, x);
      due("a line", line.kept(0, 0, 0), w * w + x * x - 4 * w * x);
      due("a line's is whole", line.kept(0, 0, 1), 1);
      if ((x * x + 2) % w == 0) fractionDue(row(1, 2, w, x), w + (x * x + 2) / w, x);
      int y = 1 + w * 5 % 9, z = 1 + x * 7 % 9;
      fractionDue(row(3, 3, w, x, y, z), w * w * z * z + x * x * x * z + y * y * y * w + 3 * x * x * y * y, w * x * y * z);
    }
    ExchangeRows still = row(0, 2, 5, 5);
    due("0 above", still.kept(0, 0, 0), 0);
    due("1 below", still.kept(0, 0, 1), 1);
    for (int part : new int[] {-1, 2, LEAST, MOST}) due("no part", still.kept(0, 0, part), FARTHER + 2);
    for (int n : new int[] {-1, LEAST}) due("below 0", still.kept(0, n, 0), FARTHER + 4);
    due("no part ahead of below 0", still.kept(0, -1, 2), FARTHER + 2);
    due("below 0 ahead of none", row(2, 0).kept(0, -1, 0), FARTHER + 4);
  }
  static void fractionDue(ExchangeRows x, long above, long below) {
    long g = java.math.BigInteger.valueOf(above).gcd(java.math.BigInteger.valueOf(below)).longValue();
    due("above", x.kept(0, 0, 0), above / g);
    due("below", x.kept(0, 0, 1), below / g);
  }

  static void staysAsFarAsThereIsOne() {
    sentence("STAYS: the first n at which KEPT is unlike that at 0 (as far as there is one); -9; -3 there is no KEPT at 0");
    for (int law : new int[] {0, 1, 3}) for (int f = 0; f < 10; f++) for (int v = 1; v < 10; v++) {
      ExchangeRows x = row(law, f, v, 1);
      int want = -9;
      for (int n = 1; n < 60 && x.kept(0, n, 0) < FARTHER; n++) if (want == -9 && (x.kept(0, n, 0) != x.kept(0, 0, 0) || x.kept(0, n, 1) != x.kept(0, 0, 1))) want = n;
      due("stays", x.stays(0), x.kept(0, 0, 0) < FARTHER ? want : -3);
    }
    for (int law : new int[] {2, 4, 5, 6}) due("another LAW", row(law, 1).stays(0), -3);
    due("no third term", row(1, 0, 9, 8).stays(0), -3);
    due("one KEPT alone", row(1, 1, 1, 3).stays(0), -9);
    due("up to the end", row(0, 2).stays(0), -9);
  }

  static void firstCommon() {
    sentence("FIRST COMMON: the least n for which a(n) and a(n + 1) are there and have a common divisor above 1; -9");
    due("at 0", row(0, 3, 9, 6).common(0), 0);
    due("two terms alone", row(1, 0, 9, 6).common(0), 0);
    due("two terms alone without", row(1, 0, 9, 8).common(0), -9);
    // 1, 8, 3, 26, 10; 3, 4, 7, 1, 34, 60; 1, 4, 3, 2, 1, 10, 8: the last two alone.
    due("the last two of a three", row(2, 2, 1, 8, 3).common(0), 3);
    due("the last two of a four", row(3, 2, 3, 4, 7, 1).common(0), 4);
    due("the last two of a five", row(4, 1, 1, 4, 3, 2, 1).common(0), 5);
    due("never", row(0, 3).common(0), -9);
    sentence("FIRST COMMON: 0 has all");
    due("4, 2, 0", row(0, 2, 4, 2).common(0), 0);
    due("2, 1, 0: 1 has no other", row(0, 2, 2, 1).common(0), -9);
    due("2, 2, 0, -2", row(0, 1, 2, 2).common(0), 0);
  }

  static void dividedBy() {
    sentence("DIVIDED by d (2 .. 9999): the least n for which a(n) is there and a multiple of d; -9");
    ExchangeRows x = row(0, 3);
    long[] a = terms(x, 0);
    for (int d : new int[] {2, 3, 5, 7, 13, 89, 466, 4181, 9998, 9999}) {
      int want = -9;
      for (int n = a.length - 1; n >= 0; n--) if (a[n] % d == 0) want = n;
      due("by " + d, x.divided(0, d), want);
    }
    due("at the last", x.divided(0, 466), 20);
    for (int d : new int[] {1, 0, -1, LEAST}) due("below", x.divided(0, d), -4);
    for (int d : new int[] {10000, MOST}) due("above", x.divided(0, d), -6);
    due("0 is a multiple", row(0, 2, 9, 8).divided(0, 9999), 9);
    due("at 0", row(0, 3, 9, 1).divided(0, 9), 0);
    due("-37", row(0, 2, 9, 7).divided(0, 37), 23);
  }

  static void unlikeOrOnlyOne() {
    sentence("UNLIKE: the least n at which the terms are unlike, or only one has one; -9; one twice: -9");
    ExchangeRows x = row(1, 1, 1, 3);
    addRow(x, 0, 4, 1, 3);
    addRow(x, 1, 1, 1, 3);
    addRow(x, 0, 3, 1, 3);
    due("a third of 10 and of 11", x.unlike(0, 1), 2);
    due("both end", x.unlike(0, 2), -9);
    due("a third of 11 and of 8", x.unlike(1, 3), 2);
    for (int r = 0; r < 4; r++) due("one twice", x.unlike(r, r), -9);
    ExchangeRows y = row(1, 3, 1, 3);
    due("1, 3, 12, 49", y.term(0, 3), 49);
    // 1, 1, 4 .. of order 2 ends never, so does 1, 1, 1 .. : 60 terms each.
    ExchangeRows z = row(0, 2, 1, 1);
    addRow(z, 4, 0, 1, 1, 1, 1, 1);
    addRow(z, 0, 2, 1, 2);
    due("60 alike by two LAWS", z.unlike(0, 1), -9);
    due("the second", z.unlike(0, 2), 1);
    // 9, 8 and no more; 9, 8, 7 ..
    ExchangeRows v = row(1, 0, 9, 8);
    addRow(v, 0, 2, 9, 8);
    due("only one has one", v.unlike(0, 1), 2);
    due("only the other has one", v.unlike(1, 0), 2);
    sentence("UNLIKE: a term of 0 and none are unlike, too");
    ExchangeRows w = row(1, 0, 9, 1);
    addRow(w, 0, 9, 9, 1);
    due("0 and none", w.unlike(0, 1), 2);
  }

  // ---- seeds

  static void lettersOfASeed() {
    sentence("A SEED has R letters (2 .. 4; 2 at first)");
    due("at first", new ExchangeRows().count(1), 2);
    for (int was = 2; was < 5; was++) for (int r = 2; r < 5; r++) {
      ExchangeRows x = new ExchangeRows();
      x.seed(was);
      due("how many there were", x.seed(r), was);
      due("R", x.count(1), r);
      due("VALUES", values(x), "1/1 ".repeat(r));
      due("TABLE", entries(x), zeros(r));
      due("DEGREES", degrees(x), begun(r));
      due("STARTS", starts(x), "1 ".repeat(r));
    }
    ExchangeRows x = seed("n3;b012;s13;m0;");
    for (int n : new int[] {1, 0, -1, LEAST}) due("below", x.seed(n), -4);
    for (int n : new int[] {5, MOST}) due("above", x.seed(n), -6);
    due("still", values(x), "10/1 3/1 1/1 ");
  }

  static void noSuchLetter() {
    sentence("-1 NOBODY: no such letter of the SEED");
    for (int r = 2; r < 5; r++) {
      ExchangeRows x = new ExchangeRows();
      x.seed(r);
      int[] none = {r, r + 1, -1, LEAST, MOST};
      int times = 0;
      for (int i : none) {
        due("table", x.table(i, 0, 10), FAR + 1);
        due("table, the other", x.table(0, i, -10), FAR + 1);
        due("begins", x.begins(i, 0), -1);
        due("entry", x.entry(i, 0), FAR + 1);
        due("entry, the other", x.entry(0, i), FAR + 1);
        due("value", x.value(i, 2), -1);
        due("power", x.power(i, 0), FAR + 1);
        due("power, the other", x.power(0, i), FAR + 1);
        due("exchange", x.exchange(i), -1);
        due("whole", x.whole(i), -1);
        due("ring", x.ring(i, 0), -1);
        due("ring, the other", x.ring(0, i), -1);
        times += 12;
      }
      due("counted", x.count(11), times);
      for (int i = 0; i < r; i++) {
        due("one twice in table", x.table(i, i, 0), FAR + 1);
        due("one twice in ring", x.ring(i, i), -1);
        due("not in entry", x.entry(i, i), 0);
        due("not in power", x.power(i, i), -1);
      }
      due("counted, too", x.count(11), times + 2 * r);
    }
  }

  static void entriesOfTheTable() {
    sentence("whole numbers b(i, j) (-9 .. 9; b(j, i) is always 0 less b(i, j); all 0 at first)");
    for (int r = 2; r < 5; r++) for (int i = 0; i < r; i++) for (int j = 0; j < r; j++) {
      if (i == j) continue;
      ExchangeRows x = new ExchangeRows();
      x.seed(r);
      int was = 0;
      for (int v = -9; v <= 9; v++) {
        due("was", x.table(i, j, v), was);
        due("b(i, j)", x.entry(i, j), v);
        due("b(j, i)", x.entry(j, i), -v);
        due("no other", x.count(4), v == 0 ? 0 : 2);
        was = v;
      }
      for (int v : new int[] {-10, LEAST}) due("below", x.table(i, j, v), FAR + 4);
      for (int v : new int[] {10, MOST}) due("above", x.table(i, j, v), FAR + 6);
      due("still", x.entry(i, j), 9);
    }
  }

  static void startsOfLetters() {
    sentence("STARTS of letters (1 .. 9; 1 at first)");
    for (int r = 2; r < 5; r++) for (int i = 0; i < r; i++) {
      ExchangeRows x = new ExchangeRows();
      x.seed(r);
      int was = 1;
      for (int v = 9; v >= 1; v--) {
        due("was", x.begins(i, v), was);
        due("VALUE", x.value(i, 0), v);
        was = v;
      }
      for (int v : new int[] {0, -1, LEAST}) due("below", x.begins(i, v), -4);
      for (int v : new int[] {10, MOST}) due("above", x.begins(i, v), -6);
      due("still", x.begins(i, 1), 1);
    }
  }

  static void whatLeavesTheSeedBegun() {
    String before = "n3;s02;s13;b012;b121;m1;m0;";
    sentence("What tells some b (by a call, in a WALK) leaves the SEED BEGUN, the rest of the TABLE (as EXCHANGES made it) and of STARTS as they are then");
    for (int way = 0; way < 2; way++) {
      ExchangeRows x = seed(before), then = seed(before);
      if (way == 0) x.table(0, 2, -5); else walk(x, "b02-5;");
      due("VALUES", values(x), "2/1 3/1 1/1 ");
      due("DEGREES", degrees(x), begun(3));
      for (int i = 0; i < 3; i++) for (int j = 0; j < 3; j++) due("b", x.entry(i, j), i == 0 && j == 2 ? -5 : i == 2 && j == 0 ? 5 : then.entry(i, j));
      due("STARTS", starts(x), "2 3 1 ");
    }
    sentence("What tells a START (by a call, in a WALK) leaves the SEED BEGUN, the rest of the TABLE and of STARTS as they are then");
    for (int way = 0; way < 2; way++) {
      ExchangeRows x = seed(before), then = seed(before);
      if (way == 0) x.begins(2, 7); else walk(x, "s27;");
      due("VALUES", values(x), "2/1 3/1 7/1 ");
      due("DEGREES", degrees(x), begun(3));
      due("TABLE", entries(x), entries(then));
      due("STARTS", starts(x), "2 3 7 ");
    }
    sentence("What tells R (by a call, in a WALK) leaves the SEED BEGUN (as told there: all STARTS 1, TABLE 0)");
    for (int way = 0; way < 2; way++) for (int r = 2; r < 5; r++) {
      ExchangeRows x = seed(before);
      if (way == 0) x.seed(r); else walk(x, "n" + r + ";");
      due("VALUES", values(x), "1/1 ".repeat(r));
      due("DEGREES", degrees(x), begun(r));
      due("TABLE", entries(x), zeros(r));
      due("STARTS", starts(x), "1 ".repeat(r));
    }
    sentence("BEGUN by what tells as it is already, too");
    ExchangeRows x = seed(before);
    due("b as it is", x.table(0, 1, x.entry(0, 1)), x.entry(0, 1));
    due("VALUES", values(x), "2/1 3/1 1/1 ");
    due("none to undo", x.undo(), -3);
  }

  static void upAndDown() {
    sentence("UP: VALUES each as often as b(i, k) says (none, if it isn't above 0; 1 at first); DOWN likewise");
    for (int b = -9; b <= 9; b++) for (int s = 1; s < 10; s++) {
      // Letter 1 of START s beside letter 0 of START 1: s to the b, plus 1.
      ExchangeRows x = new ExchangeRows();
      x.table(1, 0, b);
      x.begins(1, s);
      long power = 1;
      for (int t = 0; t < Math.abs(b); t++) power *= s;
      due("s " + s + " b " + b, x.exchange(0), power + 1);
      due("d(0, 0)", x.power(0, 0), 1);
      due("d(0, 1): none is below 0", x.power(0, 1), 0);
    }
    sentence("The new VALUE of k: UP plus DOWN, divided by its VALUE; its VALUE alone is changed");
    for (int s = 1; s < 10; s++) for (int u = 1; u < 10; u++) for (int v = 1; v < 10; v++) {
      ExchangeRows x = new ExchangeRows();
      x.seed(3);
      x.table(0, 2, 2);
      x.table(1, 2, -1);
      x.begins(2, s);
      x.begins(0, u);
      x.begins(1, v);
      PlainModel.Frac f = PlainModel.Frac.of(u * u + v, s);
      due("answers what is above", x.exchange(2), f.above().longValue());
      due("above", x.value(2, 0), f.above().longValue());
      due("below", x.value(2, 1), f.below().longValue());
      due("others", x.value(0, 0) * 10 + x.value(1, 0), u * 10 + v);
      due("back", x.exchange(2), s);
      due("begun again", degrees(x), begun(3));
    }
    sentence("New d(k, c): the greater of the two sums, less d(k, c) (sums of none: 0)");
    ExchangeRows x = seed("n4;");
    for (int k = 0; k < 4; k++) x.exchange(k);
    due("without any b: 0 less -1", degrees(x), "1 0 0 0 0 1 0 0 0 0 1 0 0 0 0 1 ");
    // Below 0: letter 0 once, letter 1 twice, so 1, -2, 0; above 0 none, so 0, 0, 0. The greater: 1, 0, 0, less 0, 0, -1.
    ExchangeRows y = seed("n3;b021;b12-2;m0;");
    due("behind m0", degrees(y), "1 0 0 0 -1 0 0 0 -1 ");
    due("b behind m0", entries(y), "0 0 -1 0 0 -2 1 2 0 ");
    y.exchange(2);
    due("a sum below 0 and one of none", degrees(y), "1 0 0 0 -1 0 1 0 1 ");
    // Above 0: letter 1 twice, so 0, -2, 0; below 0: letter 0 once, so -1, 0, 0. The greater: 0, 0, 0.
    ExchangeRows z = seed("n3;b02-1;b122;m2;");
    due("for each c the greater by itself", degrees(z), "-1 0 0 0 -1 0 0 0 1 ");
    sentence("d of all letters as ahead");
    ExchangeRows v = seed("b013;m0;m1;");
    due("3 times 1, 0, less 0, -1", degrees(v), "1 0 3 1 ");
    v.exchange(0);
    due("3 times 3, 1, less 1, 0", degrees(v), "8 3 3 1 ");
  }

  static void newEntries() {
    sentence("New b(i, j): if i or j is k: 0 less b(i, j); else b(i, j) plus half of (..)");
    for (int p = -3; p <= 3; p++) for (int q = -3; q <= 3; q++) for (int old = -2; old <= 2; old++) {
      ExchangeRows x = new ExchangeRows();
      x.seed(3);
      x.table(0, 2, p);
      x.table(2, 1, q);
      x.table(0, 1, old);
      due("can be", x.exchange(2) > 0 ? 1 : 0, Math.abs(old + (p > 0 && q > 0 ? p * q : p < 0 && q < 0 ? -p * q : 0)) <= 9 ? 1 : 0);
      if (x.count(16) > 0) continue;
      due("b(0, 2)", x.entry(0, 2), -p);
      due("b(2, 1)", x.entry(2, 1), -q);
      due("b(0, 1)", x.entry(0, 1), old + (p > 0 && q > 0 ? p * q : p < 0 && q < 0 ? -p * q : 0));
      due("b(1, 0)", x.entry(1, 0), -x.entry(0, 1));
    }
    sentence("It can't be, if a new b would be above 9, or below -9; then nothing changes");
    for (int sign = -1; sign <= 1; sign += 2) for (int old = -9; old <= 9; old++) {
      ExchangeRows x = new ExchangeRows();
      x.seed(4);
      x.table(1, 3, sign * 2);
      x.table(3, 2, sign * 2);
      x.table(1, 2, old);
      int made = old + sign * 4;
      String ahead = values(x) + entries(x) + degrees(x);
      due("b of " + made, x.exchange(3), Math.abs(made) > 9 ? -6 : 2);
      due("it is", x.entry(1, 2), Math.abs(made) > 9 ? old : made);
      if (Math.abs(made) > 9) due("nothing changes", values(x) + entries(x) + degrees(x), ahead);
      due("to be undone", x.count(3), Math.abs(made) > 9 ? 0 : 1);
    }
  }

  /** The WALK's last STATEMENT, an EXCHANGE, can't be; all ahead of it can. */
  static void great(String what, String words) {
    int last = words.length() - 3;
    ExchangeRows x = seed(words.substring(0, last));
    String ahead = values(x) + entries(x) + degrees(x);
    due(what + " in a WALK", walk(x, words.substring(last)), -2000);
    due(what + " in the whole WALK", walk(new ExchangeRows(), words), -2000 - last);
    due(what, x.exchange(words.charAt(last + 1) - '0'), -6);
    due(what + ": nothing changes", values(x) + entries(x) + degrees(x), ahead);
    due(what + ": what can be undone", x.count(3), 1);
    due(what + ": in thought it leads nowhere", x.reached(1, 0) <= x.count(1) ? 1 : 0, 1);
  }
  static void notGreat(String what, String words, String values) {
    due(what, values(seed(words)), values);
  }

  static void greatOnes() {
    sentence("It can't be, if UP or DOWN on the way is GREAT");
    great("UP above the line", "b016;m1;m0;m1;");
    great("UP below the line", "n3;b013;b122;s16;s22;m1;m2;m0;");
    great("UP above and below", "b014;s15;m1;m0;m1;");
    great("DOWN above the line", "b016;m0;m1;m0;");
    great("DOWN below the line", "n3;b011;b028;s03;s19;m1;m0;m2;");
    great("DOWN above and below", "b015;s07;m0;m1;m0;");
    sentence("It can't be, if their sum is GREAT");
    // 5 to the 9th times 2 to the 9th, plus 1; 9 to the 9th times 2, plus 9 to the 9th.
    great("1000000001 above", "n3;b109;b209;s15;s22;m0;");
    great("1162261467 above", "n4;b109;b201;b30-9;s19;s22;s39;m0;");
    great("a sum below the line", "n3;b015;b128;s08;s27;m0;m2;m1;");
    great("a sum above and below", "n3;b016;b129;s03;s27;m0;m2;m1;");
    sentence("It can't be, if the new VALUE is GREAT");
    great("a VALUE above the line", "n3;b013;b125;s04;s26;m0;m1;m0;");
    great("a VALUE below the line", "n3;b011;b129;s05;s29;m2;m1;m0;");
    sentence("GREAT: above 1000000000, so 1000000000 is not");
    due("a sum of 1000000000", walk(new ExchangeRows(), "n4;b01-1;b022;b032;s03;s25;m1;m3;m0;m2;m0;"), 11);
    // 2/5 and 1/4, each to the 9th, are 1/1000000000, plus 1/4.
    ExchangeRows tenths = seed("n4;b029;b129;b231;s05;s18;s38;m3;m0;m1;m2;");
    due("a sum and a VALUE of 250000001", tenths.value(2, 0), 250000001);
    due("by 1000000000", tenths.value(2, 1), 1000000000);
    // 5 to the 9th times 4 to the 9th by 2 to the 9th on the way; below the line likewise.
    due("on the way above", walk(new ExchangeRows(), "n4;b039;b139;b23-1;s05;s12;s24;m2;m3;"), 9);
    due("on the way below", walk(new ExchangeRows(), "n4;b03-9;b13-9;b231;b201;s05;s14;s22;m0;m1;m3;"), 11);
    sentence("multiplied, one by one, by numbers: GREAT on the way is GREAT, though the end would not be");
    due("first 9 to the 9th times 9, then by 9", walk(new ExchangeRows(), "n4;b039;b131;b23-1;s09;s19;s29;m2;m3;"), -2034);
    due("first by 9, then 9 to the 9th times 9", walk(new ExchangeRows(), "n4;b03-1;b139;b231;s09;s19;s29;m0;m3;"), 9);
    notGreat("two by its START", "s05;s15;m0;", "2/5 5/1 ");
  }

  static void wholeOnes() {
    sentence("WHOLE: the VALUE, times START of each letter c to the power d(i, c) (of those that are above 0), is a whole number");
    String[] words = {"b011;s04;s16;m0;m1;", "b012;s02;s12;m0;m1;m0;", "n3;b011;b122;s04;s16;s29;m0;m1;m2;m0;", "n3;b011;b121;s06;s14;s29;m2;m1;m0;w02;"};
    for (String w : words) {
      ExchangeRows x = seed(w), y = seed(w);
      String[] s = starts(y).trim().split(" ");
      for (int i = 0; i < x.count(1); i++) {
        java.math.BigInteger p = java.math.BigInteger.valueOf(x.value(i, 0));
        for (int c = 0; c < x.count(1); c++) if (x.power(i, c) > 0) p = p.multiply(new java.math.BigInteger(s[c]).pow(x.power(i, c)));
        due(w + " letter " + i, x.whole(i), p.mod(java.math.BigInteger.valueOf(x.value(i, 1))).signum() == 0 ? 1 : 0);
      }
    }
    due("begun", new ExchangeRows().whole(1), 1);
  }

  static void sinksAndSources() {
    sentence("SINKS: letters k (bits) with no b(i, k) below 0; SOURCES: with none above 0");
    for (int a = -1; a <= 1; a++) for (int b = -1; b <= 1; b++) for (int c = -1; c <= 1; c++) {
      ExchangeRows x = new ExchangeRows();
      x.seed(3);
      x.table(0, 1, a);
      x.table(0, 2, b);
      x.table(1, 2, c);
      // b(i, 0) is -a and -b; b(i, 1) a and -c; b(i, 2) b and c.
      due("sinks", x.sinks(0), (a <= 0 && b <= 0 ? 1 : 0) + (a >= 0 && c <= 0 ? 2 : 0) + (b >= 0 && c >= 0 ? 4 : 0));
      due("sources", x.sinks(1), (a >= 0 && b >= 0 ? 1 : 0) + (a <= 0 && c >= 0 ? 2 : 0) + (b <= 0 && c <= 0 ? 4 : 0));
    }
    for (int r = 2; r < 5; r++) {
      ExchangeRows x = new ExchangeRows();
      x.seed(r);
      due("all", x.sinks(0), (1 << r) - 1);
      due("all", x.sinks(1), (1 << r) - 1);
    }
    for (int what : new int[] {-1, 2, LEAST, MOST}) due("no what", new ExchangeRows().sinks(what), -2);
  }

  static String sorted(ExchangeRows x) {
    List<PlainModel.Frac> all = new ArrayList<>();
    for (int i = 0; i < x.count(1); i++) all.add(PlainModel.Frac.of(x.value(i, 0), x.value(i, 1)));
    all.sort(null);
    return all.toString();
  }
  /** By EXCHANGES done truly. */
  static int ringTruly(String words, int i, int j) {
    ExchangeRows x = seed(words);
    String now = sorted(x);
    for (int n = 1; n <= 20; n++) {
      if (x.exchange(n % 2 == 1 ? i : j) == -6) return -9;
      if (sorted(x).equals(now)) return n;
    }
    return -9;
  }

  static final String[] SEEDS = {"", "b011;", "b011;s02;s13;", "b012;", "b013;s05;", "b019;m0;m1;", "b012;m0;m1;m0;", "n3;", "n3;b011;b121;",
    "n3;b012;b122;b202;", "n3;b011;b121;b201;s03;", "n3;b011;b122;s04;s16;s29;", "n3;b121;w01;m2;", "n3;b013;b023;m0;", "n3;b011;b12-3;s12;m1;w02;",
    "n3;b109;b209;s15;s22;", "n4;b011;", "n4;b011;b121;b231;", "n4;b012;b23-2;s13;m0;m3;"};

  static void rings() {
    sentence("RING: by turns, the one first: the least n for which all VALUES, from the least to the greatest, are as they are now; -9 (also if one of these can't be)");
    for (String w : SEEDS) {
      ExchangeRows x = seed(w);
      String ahead = values(x) + entries(x) + degrees(x) + x.count(3);
      for (int i = 0; i < x.count(1); i++) for (int j = 0; j < x.count(1); j++) {
        if (i != j) due(w + " ring of " + i + ", " + j, x.ring(i, j), ringTruly(w, i, j));
      }
      due("nothing changes", values(x) + entries(x) + degrees(x) + x.count(3), ahead);
      due("asked again", x.ring(1, 0), ringTruly(w, 1, 0));
      due("asked once more", x.ring(1, 0), ringTruly(w, 1, 0));
    }
    sentence("RING: n (1 .. 20)");
    due("1", seed("b011;s02;s13;").ring(0, 1), 1);
    // A term's neighbours multiplied are its square plus 5: .. 7, 3, 2, 3, 7 .., the same to and fro; one EXCHANGE more is two more in the RING.
    String there = "n3;b012;b121;b201;s02;s13;s25;";
    String back = "m1;m0;".repeat(6);
    for (int far = 1; far <= 11; far++) {
      ExchangeRows x = seed(there + back.substring(0, 3 * far));
      int first = far % 2 == 1 ? 1 : 0;
      due(far + " away, an odd RING", x.ring(first, 1 - first), 2 * far - 1 <= 20 ? 2 * far - 1 : -9);
    }
    String straight = "b012;" + "m0;m1;".repeat(6);
    for (int far = 1; far <= 12; far++) {
      ExchangeRows x = seed(straight.substring(0, 5 + 3 * far));
      int first = far % 2 == 1 ? 0 : 1;
      due(far + " away, an even RING", x.ring(first, 1 - first), 2 * far <= 20 ? 2 * far : -9);
    }
  }

  // ---- all seeds some exchanges away, held against ways that are gone truly

  /** Each way of n EXCHANGES or fewer that can be, the shorter first, then by letters; with the object it leads to. */
  static Map<String, ExchangeRows> ways(String words, int n) {
    Map<String, ExchangeRows> all = new LinkedHashMap<>();
    List<String> last = List.of("");
    all.put("", seed(words));
    int r = all.get("").count(1);
    for (int len = 1; len <= n; len++) {
      List<String> longer = new ArrayList<>();
      for (String way : last) for (int k = 0; k < r; k++) {
        ExchangeRows x = seed(words);
        for (char c : way.toCharArray()) x.exchange(c - '0');
        if (x.exchange(k) == -6) continue;
        all.put(way + k, x);
        longer.add(way + k);
      }
      last = longer;
    }
    return all;
  }

  static void reachedTruly(String words) {
    Map<String, ExchangeRows> ways = ways(words, 4);
    ExchangeRows asked = seed(words);
    String ahead = values(asked) + entries(asked) + degrees(asked) + asked.count(3);
    for (int n = 0; n <= 4; n++) {
      TreeSet<String> alike = new TreeSet<>(), unlikeValues = new TreeSet<>();
      int greatest = LEAST;
      int not = 0;
      for (Map.Entry<String, ExchangeRows> e : ways.entrySet()) {
        ExchangeRows x = e.getValue();
        if (e.getKey().length() > n || !alike.add(values(x) + entries(x))) continue;
        unlikeValues.addAll(Arrays.asList(values(x).trim().split(" ")));
        greatest = Math.max(greatest, x.count(5));
        for (int i = 0; i < x.count(1); i++) not += 1 - x.whole(i);
      }
      due(words + " SEEDS by " + n, asked.reached(n, 0), alike.size());
      due(words + " VALUES by " + n, asked.reached(n, 1), unlikeValues.size());
      due(words + " the greatest d by " + n, asked.reached(n, 2), greatest);
      due(words + " not WHOLE by " + n, asked.reached(n, 3), not);
    }
    due("nothing changes", values(asked) + entries(asked) + degrees(asked) + asked.count(3), ahead);
  }

  static void reachedByFewAndMany() {
    sentence("REACHED by n (0 .. 4): all unlike SEEDS to which n EXCHANGES or fewer lead, the SEED itself, too; unlike VALUES; the greatest d; not WHOLE");
    for (String w : SEEDS) reachedTruly(w);
    ExchangeRows x = seed("b011;");
    for (int n : new int[] {-1, LEAST}) due("below", x.reached(n, 4), -4);
    for (int n : new int[] {5, MOST}) due("above", x.reached(n, 4), -6);
    for (int what : new int[] {-1, 4, LEAST, MOST}) due("no what", x.reached(0, what), -2);
    sentence("REACHED: by an EXCHANGE that can't be none is");
    // 2, 513: back to 2, 1 and 1, 1 and on to 1, 2 and 513, 2.
    ExchangeRows y = seed("b019;m0;m1;");
    for (int n = 0; n <= 4; n++) due("by " + n, y.reached(n, 0), n + 1);
    sentence("REACHED: ALIKE are SEEDS with the same VALUES and TABLE");
    ExchangeRows z = new ExchangeRows();
    for (int n = 0; n <= 4; n++) due("1, 1; 2, 1; 1, 2; 2, 2 by " + n, z.reached(n, 0), Math.min(1 + 2 * n, 4));
    // 2 by 2 is 2 / 2, so the VALUES stay; the TABLE is turned, or, without any, is 0.
    ExchangeRows v = seed("s02;s12;");
    for (int n = 0; n <= 4; n++) due("2, 2; 1, 2; 2, 1; 1, 1 by " + n, v.reached(n, 0), n == 0 ? 1 : n == 1 ? 3 : 4);
    sentence("REACHED: the most that can be, 161");
    due("161", seed("n4;b01-1;b022;b03-1;b12-1;b131;b231;").reached(4, 0), 161);
  }

  static void fewestTruly(String words) {
    ExchangeRows asked = seed(words);
    Map<String, String> first = new LinkedHashMap<>();
    for (Map.Entry<String, ExchangeRows> e : ways(words, 4).entrySet()) for (String v : values(e.getValue()).trim().split(" ")) first.putIfAbsent(v, e.getKey());
    int many = 0;
    for (Map.Entry<String, String> e : first.entrySet()) {
      // An object is promised 512 calls.
      if (many++ % 60 == 0) asked = seed(words);
      String[] v = e.getKey().split("/");
      int above = Integer.parseInt(v[0]), below = Integer.parseInt(v[1]);
      String way = e.getValue();
      due(words + " to " + e.getKey(), asked.fewest(above, below, -1), way.length());
      for (int i = 0; i < 6; i++) due(words + " to " + e.getKey() + " letter " + i, asked.fewest(above, below, i), i < way.length() ? way.charAt(i) - '0' : -9);
    }
  }

  static void fewestToAValue() {
    sentence("FEWEST: the fewest EXCHANGES (0 .. 4) behind which some letter has it; the i-th letter of the first such way; -9 (by 0 EXCHANGES none has an i-th)");
    for (String w : SEEDS) fewestTruly(w);
    ExchangeRows x = seed("b012;");
    due("by 0", x.fewest(1, 1, -1), 0);
    for (int i : new int[] {0, 1, 4, MOST}) due("by 0 none has an i-th", x.fewest(1, 1, i), -9);
    due("by 4", x.fewest(34, 1, -1), 4);
    due("the last letter", x.fewest(34, 1, 3), 1);
    for (int i : new int[] {4, 5, MOST}) due("there are not so many", x.fewest(34, 1, i), -9);
    due("by 5", x.fewest(89, 1, -1), -9);
    for (int i : new int[] {0, MOST}) due("none, no letter", x.fewest(89, 1, i), -9);
    sentence("fewest: -4 (above 0, below 1, i -1)");
    due("above 0", x.fewest(0, 1, -1), -9);
    for (int a : new int[] {-1, LEAST}) due("above -1", x.fewest(a, 1, -1), -4);
    for (int b : new int[] {0, -1, LEAST}) due("below 0", x.fewest(1, b, -1), -4);
    for (int i : new int[] {-2, LEAST}) due("i -2", x.fewest(1, 1, i), -4);
    due("counted", x.count(14), 7);
    due("the greatest", x.fewest(MOST, MOST, -1), 0);
    due("the greatest above", x.fewest(MOST, 1, -1), -9);
    due("the greatest below", x.fewest(1, MOST, -1), -9);
  }

  static int drawn(long z, int n, int m) {
    for (int i = 0; i < n; i++) z = (int) ((z * 1664525 + 1013904223) % 4294967296L);
    return (int) ((z & 2147483647) / 256 % m);
  }

  static void lotsAreDrawn() {
    sentence("LOTS: n times (1 .. 30) a letter (by a DRAW below R) is EXCHANGED, if that can be: how often; the greatest d then; z is an int that wraps around");
    int[] z = {0, 1, -1, 2, 255, 256, LEAST, MOST, 12345, -987654321};
    for (String w : SEEDS) for (int s : z) {
      ExchangeRows asked = seed(w), truly = seed(w);
      int often = 0;
      for (int n = 1; n <= 30; n++) {
        if (truly.exchange(drawn(s, n, truly.count(1))) > 0) often++;
        due(w + " " + n + " lots of " + s + ": how often", asked.lots(n, s, 0), often);
        due(w + " " + n + " lots of " + s + ": d", asked.lots(n, s, 1), truly.count(5));
      }
    }
    ExchangeRows x = seed("b012;");
    for (int n : new int[] {0, -1, LEAST}) due("below", x.lots(n, 0, 2), -4);
    for (int n : new int[] {31, MOST}) due("above", x.lots(n, 0, 2), -6);
    for (int what : new int[] {-1, 2, LEAST, MOST}) due("no what", x.lots(1, 0, what), -2);
    due("nothing changes", values(x) + degrees(x) + x.count(3), "1/1 1/1 " + begun(2) + 1);
  }

  // ---- walks

  static void lettersCome() {
    sentence("A letter (0 .. 255) comes: how many there are; -4; -6 (255; 72, too)");
    for (int part = 0; part < 4; part++) {
      ExchangeRows x = new ExchangeRows();
      for (int c = 64 * part; c < 64 * part + 64; c++) due("letter " + c, x.letter(c), c % 64 + 1);
    }
    ExchangeRows x = new ExchangeRows();
    for (int i = 1; i <= 72; i++) due("letter", x.letter(255), i);
    for (int c : new int[] {0, 255, 256, MOST}) due("no room", x.letter(c), -6);
    for (int c : new int[] {-1, LEAST}) due("below, and no room", x.letter(c), -4);
    due("72", x.count(2), 72);
    ExchangeRows y = new ExchangeRows();
    for (int c : new int[] {256, 257, MOST}) due("above", y.letter(c), -6);
    for (int c : new int[] {-1, LEAST}) due("below", y.letter(c), -4);
    due("none", y.count(2), 0);
  }

  /** The letters that can stand at a place of a STATEMENT, as a text. */
  static boolean fits(String form, int place, int c) {
    char kind = form.charAt(0);
    if (place == 0) return "nbsmw".indexOf(c) >= 0 && c > 0;
    boolean digit = c >= '0' && c <= '9';
    int digits = kind == 'n' || kind == 'm' ? 1 : 2;
    if (place <= digits) return digit;
    if (kind != 'b') return c == ';';
    if (place == 3) return digit || c == '-';
    if (place == 4) return form.charAt(3) == '-' ? digit : c == ';';
    return c == ';';
  }

  static void theFirstLetterThatGoesOnNoWalk() {
    sentence("FAULT kind 1: the place (from 0) of the first letter with which no WALK goes on: -1000 less it");
    String[] forms = {"n2;", "b011;", "b01-1;", "s01;", "m0;", "w01;"};
    for (String ahead : new String[] {"", "m0;b01-3;"}) for (String f : forms) for (int at = 0; at < f.length(); at++) for (int c = 0; c < 256; c++) {
      if (fits(f, at, c)) continue;
      due(ahead + f + " with " + c + " at " + at, walk(new ExchangeRows(), ahead + f.substring(0, at) + (char) c + f.substring(at + 1)), -1000 - ahead.length() - at);
    }
    sentence("FAULT kind 1: the number of letters, if something lacks");
    for (String f : forms) for (int at = 1; at < f.length(); at++) {
      due(f.substring(0, at), walk(new ExchangeRows(), f.substring(0, at)), -1000 - at);
      due("m0;" + f.substring(0, at), walk(new ExchangeRows(), "m0;" + f.substring(0, at)), -1003 - at);
    }
    due("no letter", new ExchangeRows().walk(), -1000);
    due("72 that lack", walk(new ExchangeRows(), "m0;".repeat(22) + "b01-1;".substring(0, 4) + "00"), -1071);
    due("72 of which ; lacks", walk(new ExchangeRows(), "m0;".repeat(23) + "s01"), -1072);
    sentence("else kind 2: kind 1 is told, though a STATEMENT ahead of it can't be");
    due("m9 ahead", walk(new ExchangeRows(), "m9;m"), -1004);
    due("n1 ahead", walk(new ExchangeRows(), "n1;x"), -1003);
  }

  static void theFirstStatementThatCantBe() {
    sentence("FAULT kind 2: a number out of range, no such letter, one twice in \"b\", \"w\"");
    for (int r = 2; r < 5; r++) {
      String n = "n" + r + ";";
      for (int i = 0; i < 10; i++) {
        due("n" + i, walk(new ExchangeRows(), n + "n" + i + ";"), i >= 2 && i <= 4 ? 2 : -2003);
        due("m" + i, walk(new ExchangeRows(), n + "m" + i + ";"), i < r ? 2 : -2003);
        for (int j = 0; j < 10; j++) {
          boolean two = i < r && j < r && i != j;
          due("s" + i + j, walk(new ExchangeRows(), n + "s" + i + j + ";"), i < r && j > 0 ? 2 : -2003);
          due("w" + i + j, walk(new ExchangeRows(), n + "w" + i + j + ";"), two ? 2 : -2003);
          due("b" + i + j + 9, walk(new ExchangeRows(), n + "b" + i + j + "9;"), two ? 2 : -2003);
          due("b" + i + j + "-9", walk(new ExchangeRows(), n + "b" + i + j + "-9;"), two ? 2 : -2003);
        }
      }
    }
    for (int v = 0; v < 10; v++) {
      due("b " + v, seed("b01" + v + ";").entry(0, 1), v);
      due("b -" + v, seed("b01-" + v + ";").entry(0, 1), -v);
    }
    sentence("FAULT kind 2: the first STATEMENT that, behind all ahead of it in the text, can't be");
    due("letter 3 ahead of n4", walk(new ExchangeRows(), "m3;n4;m3;"), -2000);
    due("letter 3 behind n4", walk(new ExchangeRows(), "n4;m3;n2;m3;"), -2009);
    due("an EXCHANGE that can't be", walk(new ExchangeRows(), "b019;m0;m1;m0;m9;"), -2011);
    due("an EXCHANGE that then can be", walk(new ExchangeRows(), "b019;m0;m1;b019;m0;m1;"), 6);
    sentence("Without FAULT all of it comes, with one nothing; the letters are no more (with a FAULT neither); not counted");
    ExchangeRows x = seed("n3;b012;s13;m0;");
    String ahead = values(x) + entries(x) + degrees(x) + x.count(3);
    for (String w : new String[] {"n4;s09;m9;", "b019;w01;m1;s00;", "m1;m2;m", "w01;w", ""}) {
      due("a FAULT in " + w, walk(x, w) < 0 ? 1 : 0, 1);
      due("nothing of " + w, values(x) + entries(x) + degrees(x) + x.count(3), ahead);
      due("no letters", x.count(2), 0);
    }
    for (int k = 11; k <= 16; k++) due("not counted", x.count(k), 0);
    due("the STARTS stay", starts(x), "1 3 1 ");
    due("24 STATEMENTS of 72 letters", walk(new ExchangeRows(), "m0;".repeat(24)), 24);
    sentence("\"w\": they change places (VALUES, STARTS, rows and columns of the TABLE, DEGREES: both ways; not BEGUN by that)");
    String w = "n4;b011;b02-2;b033;b121;b23-1;s02;s13;s25;s37;m0;m2;";
    for (int i = 0; i < 4; i++) for (int j = 0; j < 4; j++) {
      if (i != j) changedPlaces(w, i, j);
    }
  }
  static void changedPlaces(String words, int i, int j) {
    ExchangeRows a = seed(words), b = seed(words);
    due("one STATEMENT", walk(b, "w" + i + j + ";"), 1);
    for (int p = 0; p < 4; p++) {
      int pp = p == i ? j : p == j ? i : p;
      for (int part = 0; part < 2; part++) due("VALUE", b.value(p, part), a.value(pp, part));
      for (int q = 0; q < 4; q++) {
        int qq = q == i ? j : q == j ? i : q;
        due("b", b.entry(p, q), a.entry(pp, qq));
        due("d", b.power(p, q), a.power(pp, qq));
      }
    }
    String[] s = starts(a).split(" "), t = starts(b).split(" ");
    for (int p = 0; p < 4; p++) due("START " + t[p], t[p], s[p == i ? j : p == j ? i : p]);
  }

  // ---- lists

  static void listsOf40AtMost() {
    sentence("LISTS 0 .. 2 are rows of ints (40 at most), missing at first");
    ExchangeRows x = row(0, 3);
    for (int l = 0; l < 3; l++) {
      due("laws", x.laws(l, 0), -11);
      due("figures", x.figures(l, 0), -11);
      due("judge", x.judge(l, 0), -11);
      due("put", x.put(l, 0, 1), -11);
      due("look", x.look(l, 0), FARTHER + 11);
      due("lays", x.lays(l, 0, 0), -11);
      due("-14", x.list(l, -1), -14);
      due("-14", x.list(l, LEAST), -14);
      due("41", x.list(l, 41), -6);
      due("the greatest", x.list(l, MOST), -6);
      due("still missing", x.look(l, 0), FARTHER + 11);
    }
    due("-11 and -14 are not counted, -6 is", x.count(16), 6);
    for (int l : new int[] {-1, 3, LEAST, MOST}) {
      due("no list: laws", x.laws(l, -1), -1);
      due("no list: figures", x.figures(l, -1), -1);
      due("no list: judge", x.judge(l, -1), -1);
      due("no list: list", x.list(l, 41), -1);
      due("no list: list", x.list(l, -1), -1);
      due("no list: put", x.put(l, -1, 0), -1);
      due("no list: look", x.look(l, -1), FARTHER + 1);
      due("no list: lays", x.lays(l, -1, -1), -1);
    }
    for (int n = 0; n <= 40; n++) {
      ExchangeRows y = new ExchangeRows();
      due("a list of " + n, y.list(2, n), 1);
      for (int i : new int[] {n, n + 1, -1, LEAST, MOST}) {
        due("put, no place", y.put(2, i, 7), -13);
        due("look, no place", y.look(2, i), FARTHER + 13);
      }
      for (int i = 0; i < n; i++) {
        due("all 0", y.look(2, i), 0);
        due("put", y.put(2, i, i - 3), 1);
      }
      for (int i = 0; i < n; i++) due("look", y.look(2, i), i - 3);
      due("anew", y.list(2, n), 1);
      for (int i = 0; i < n; i++) due("all 0 again", y.look(2, i), 0);
      for (int k = 11; k <= 16; k++) due("-13 is not counted", y.count(k), 0);
    }
    sentence("LISTS are rows of ints: the least and the greatest");
    ExchangeRows z = new ExchangeRows();
    z.list(0, 2);
    z.put(0, 0, LEAST);
    z.put(0, 1, MOST);
    due("the least", z.look(0, 0), LEAST);
    due("the greatest", z.look(0, 1), MOST);
  }

  static void termsAreLaid() {
    sentence("lays: from place i on, as many as there are and have a place; -13 no such place (with the size of the LIST, too)");
    for (int law : new int[] {0, 1}) for (int n : new int[] {0, 1, 2, 3, 5, 39, 40}) for (int i = -1; i <= n + 1; i++) {
      // 60 terms of 1, or 1, 3, 10 alone.
      ExchangeRows x = law == 0 ? row(0, 2) : row(1, 1, 1, 3);
      int[] before = new int[n];
      Arrays.fill(before, -5);
      fill(x, 1, before);
      int many = i < 0 || i >= n ? -13 : Math.min(law == 0 ? 60 : 3, n - i);
      due("lays from " + i + " of " + n, x.lays(1, i, 0), many);
      for (int p = 0; p < n; p++) due("place " + p, x.look(1, p), p >= i && i >= 0 && p < i + many ? x.term(0, p - i) : -5);
    }
  }

  static void madeByLaws() {
    sentence("MADE BY: so all of them, if it tells no more than these");
    for (int n = 0; n <= 9; n++) for (int v : new int[] {0, 1, -7}) {
      ExchangeRows x = new ExchangeRows();
      int[] l = new int[n];
      Arrays.fill(l, v);
      fill(x, 0, l);
      for (int law = 0; law < 7; law++) if (n <= ORDER[law]) due("all FIGURES of " + n + " numbers", x.figures(0, law), 1023);
      for (int f = 0; f < 10; f++) for (int law = 0; law < 7; law++) if (n <= ORDER[law]) due("LAWS", x.laws(0, f) >> law & 1, 1);
    }
    sentence("MADE BY: each number behind the first ORDER ones is as the LAW makes it; a number divided by 0, with a rest, is not so");
    for (int law = 0; law < 7; law++) {
      for (int t = 0; t < 40; t++) listMade(law, t);
    }
    ExchangeRows x = new ExchangeRows();
    fill(x, 0, 0, 0, 0);
    due("0 by 0 is not so; a LINE is not divided", x.laws(0, 0), 127 - 2);
    fill(x, 0, 0, 0, 0, 0, 0, 0, 0, 0, 0);
    due("nor by any other", x.laws(0, 3), 1);
    fill(x, 0, 2, 3, 4);
    due("9 by 2 leaves a rest", x.figures(0, 1), 0);
    fill(x, 0, 2, 3, 5);
    due("10 by 2 is 5", x.figures(0, 1), 2);
    fill(x, 0, -3, 1, -3);
    due("9 by -3 is -3", x.figures(0, 1), 256);
    sentence("Numbers in the LIST must be -10000 .. 10000; -3 a number out of range");
    for (int n : new int[] {1, 2, 3, 40}) for (int i : new int[] {0, n / 2, n - 1}) {
      ExchangeRows y = new ExchangeRows();
      y.list(0, n);
      for (int v : new int[] {10000, -10000}) {
        y.put(0, i, v);
        due("in range", y.laws(0, 0) >= 0 ? 1 : 0, 1);
        due("in range", y.figures(0, 0) >= 0 ? 1 : 0, 1);
      }
      for (int v : new int[] {10001, -10001, LEAST, MOST}) {
        y.put(0, i, v);
        due("out of range", y.laws(0, 9), -3);
        due("out of range", y.figures(0, 6), -3);
        due("a figure above ahead of it", y.laws(0, 10), -6);
        due("a figure below ahead of it", y.laws(0, -1), -4);
        due("no LAW ahead of it", y.figures(0, 7), -2);
      }
      due("counted", y.count(13), 8);
    }
    for (int f : new int[] {-1, LEAST}) due("below ahead of missing", x.laws(1, f), -4);
    for (int f : new int[] {10, MOST}) due("above ahead of missing", x.laws(1, f), -6);
    for (int law : new int[] {-1, 7, LEAST, MOST}) due("no LAW ahead of missing", x.figures(1, law), -2);
  }
  /** A LIST of a ROW's terms is made by its LAW and FIGURE; one number otherwise, and it is as the equation says. */
  static void listMade(int law, int t) {
    int[] s = new int[ORDER[law]];
    for (int i = 0; i < s.length; i++) s[i] = 1 + (t * 7 + i * i * 3 + law) % (t % 3 + 2);
    int f = t % 10;
    ExchangeRows x = row(law, f, s);
    int many = 0;
    while (many < 40 && many < x.of(0, 3) && Math.abs(x.term(0, many)) <= 10000) many++;
    long[] a = new long[many];
    x.list(0, many);
    x.lays(0, 0, 0);
    for (int i = 0; i < many; i++) a[i] = x.term(0, i);
    for (int g = 0; g < 10; g++) for (int l = 0; l < 7; l++) madeDue(x, a, l, g);
    int at = many - 1 - t % 3;
    if (at < 0 || a[at] == 10000) return;
    a[at]++;
    x = new ExchangeRows();
    fill(x, 0, Arrays.stream(a).mapToInt(v -> (int) v).toArray());
    for (int g = 0; g < 10; g += 3) for (int l = 0; l < 7; l++) madeDue(x, a, l, g);
  }
  static void madeDue(ExchangeRows x, long[] a, int law, int f) {
    int so = 1;
    for (int n = ORDER[law]; n < a.length; n++) {
      long d = law == 0 ? 1 : a[n - ORDER[law]], p = product(law, f, a, n);
      if (d == 0 || p % d != 0 || p / d != a[n]) so = 0;
    }
    due("by LAW " + law + " and " + f + " " + Arrays.toString(a), x.laws(0, f) >> law & 1, so);
    due("by FIGURE " + f + " of " + law + " " + Arrays.toString(a), x.figures(0, law) >> f & 1, so);
  }

  static void listsAreJudged() {
    sentence("JUDGED: from a(0) on: the first place that is otherwise (that isn't there, too); -9");
    ExchangeRows x = row(1, 1, 1, 3);
    addRow(x, 0, 2);
    for (int n = 0; n <= 5; n++) {
      x.list(0, n);
      if (n > 0) x.lays(0, 0, 0);
      due("1, 3, 10, 0 .. of " + n, x.judge(0, 0), n <= 3 ? -9 : 3);
      for (int i = 0; i < n && i < 3; i++) {
        x.put(0, i, 77);
        due("otherwise at " + i, x.judge(0, 0), i);
        x.put(0, i, x.term(0, i));
      }
    }
    x.list(1, 40);
    x.lays(1, 0, 1);
    due("40 of 60", x.judge(1, 1), -9);
    x.put(1, 39, 2);
    due("the last place", x.judge(1, 1), 39);
    x.put(1, 39, LEAST);
    due("the least int", x.judge(1, 1), 39);
    x.list(2, 0);
    due("none", x.judge(2, 0), -9);
  }

  // ---- undo, the image

  static void eightAtMostAreUndone() {
    sentence("exchange() done truly, a WALK without FAULT can be UNDONE (the latest first, 8 at most, older ones no more: the SEED is as ahead of it)");
    for (int many = 0; many <= 30; many++) {
      ExchangeRows x = new ExchangeRows();
      // 1, 2, 5, 13 .. as far as it can be; else 1, 2, 3, 2, 1 .., which comes round by 10.
      x.table(0, 1, many <= 12 ? 2 : 1);
      List<String> states = new ArrayList<>();
      for (int i = 0; i < many; i++) {
        states.add(values(x) + entries(x) + degrees(x));
        if (i % 3 == 2) due("a WALK", walk(x, "m" + i % 2 + ";"), 1); else due("can be", x.exchange(i % 2) > 0 ? 1 : 0, 1);
        due("how many can be", x.count(3), Math.min(i + 1, 8));
      }
      for (int i = 1; i <= Math.min(many, 8); i++) {
        due("how many still can be", x.undo(), Math.min(many, 8) - i);
        due("as ahead of it", values(x) + entries(x) + degrees(x), states.get(many - i));
      }
      due("there is none", x.undo(), -3);
      due("older ones no more", values(x), many == 0 ? "1/1 1/1 " : states.get(Math.max(0, many - 8)).substring(0, values(x).length()));
      due("counted", x.count(13), 1);
    }
    sentence("UNDONE: a WALK brings back R, STARTS, the TABLE, DEGREES");
    String w = "n3;b012;b12-1;s03;s25;m1;";
    ExchangeRows x = seed(w), then = seed(w);
    walk(x, "n4;s09;b039;m3;w03;n2;");
    due("R", x.count(1), 2);
    due("how many", x.undo(), 1);
    due("R again", x.count(1), 3);
    due("all again", values(x) + entries(x) + degrees(x), values(then) + entries(then) + degrees(then));
    due("the STARTS again", starts(x), "3 1 5 ");
    sentence("UNDONE: what comes behind an undo() can be, too");
    ExchangeRows y = seed("b012;");
    for (int i = 0; i < 8; i++) y.exchange(i % 2);
    due("9 with the WALK, 8 at most", y.count(3), 8);
    due("one back", y.undo(), 7);
    y.exchange(1);
    due("8 again", y.count(3), 8);
    y.exchange(0);
    due("8 still", y.count(3), 8);
  }

  static void whatLeavesNoneToUndo() {
    sentence("seed(), table(), begins(), ON leave none (what could be UNDONE ahead of them can be no more)");
    Call[] leave = {x -> x.seed(2), x -> x.table(0, 1, 2), x -> x.begins(1, 1), x -> x.on()};
    for (Call c : leave) {
      ExchangeRows x = seed("b012;m0;");
      x.image();
      x.exchange(1);
      due("two", x.count(3), 2);
      due("not refused", c.on(x) >= -9 && x.count(11) + x.count(13) + x.count(14) + x.count(16) == 0 ? 1 : 0, 1);
      due("none", x.count(3), 0);
      due("none to undo", x.undo(), -3);
      due("another can be", x.exchange(0) > 0 ? 1 : 0, 1);
      due("how many still", x.undo(), 0);
    }
    sentence("where they are not refused");
    Call[] refused = {x -> x.seed(1), x -> x.seed(5), x -> x.table(0, 0, 1), x -> x.table(0, 1, 10), x -> x.table(0, 1, -10), x -> x.table(2, 0, 0),
      x -> x.begins(2, 1), x -> x.begins(0, 0), x -> x.begins(0, 10), x -> x.on(), x -> x.exchange(2), x -> x.walk()};
    for (Call c : refused) {
      ExchangeRows x = seed("b012;m0;");
      x.exchange(1);
      c.on(x);
      due("two", x.count(3), 2);
      due("one", x.undo(), 1);
      due("as ahead of it", values(x), "2/1 1/1 ");
    }
    sentence("what is asked, is in thought, or is another thing leaves what can be UNDONE");
    ExchangeRows x = row(0, 3);
    walk(x, "b012;m0;");
    Call[] others = {y -> y.ring(0, 1), y -> y.reached(4, 0), y -> y.fewest(2, 1, -1), y -> y.lots(30, 1, 0), y -> y.image(), y -> y.row(1, 1), y -> y.start(0, 0, 2),
      y -> y.list(0, 3), y -> y.put(0, 0, 1), y -> y.lays(0, 0, 0), y -> y.letter(65), y -> y.whole(0), y -> y.sinks(0)};
    for (Call c : others) { c.on(x); due("one", x.count(3), 1); }
    due("none", x.undo(), 0);
    due("as ahead of it", values(x) + entries(x), "1/1 1/1 " + zeros(2));
  }

  static void theImage() {
    sentence("on: -3 there is no IMAGE");
    ExchangeRows x = new ExchangeRows();
    due("none", x.on(), -3);
    due("counted", x.count(13), 1);
    sentence("THE IMAGE: ROWS, the SEED; ON from it these are as then (letters, LISTS stay)");
    for (int rows = 0; rows <= 4; rows++) for (int more = 0; rows + more <= 4; more++) {
      ExchangeRows y = new ExchangeRows();
      for (int r = 0; r < rows; r++) addRow(y, r, r + 1, r + 2, 9 - r);
      walk(y, "n3;b012;b12-1;s03;s25;m1;w01;");
      y.letter('m');
      y.list(1, 2);
      String then = values(y) + entries(y) + degrees(y);
      List<String> terms = new ArrayList<>();
      for (int r = 0; r < rows; r++) terms.add(Arrays.toString(terms(y, r)) + y.of(r, 0) + y.of(r, 1));
      due("how many ROWS", y.image(), rows);
      for (int r = 0; r < rows; r++) y.start(r, 0, 8);
      for (int r = 0; r < more; r++) y.row(6 - r, 3);
      y.letter('1');
      y.put(1, 1, 44);
      y.list(0, 1);
      if (more % 2 == 0) y.seed(4); else { y.begins(2, 7); y.exchange(2); }
      for (int again = 0; again < 2; again++) {
        due("ON: how many ROWS", y.on(), rows);
        due("ROWS", y.count(0), rows);
        due("no ROW behind", y.of(rows, 0), -1);
        for (int r = 0; r < rows; r++) due("a ROW", Arrays.toString(terms(y, r)) + y.of(r, 0) + y.of(r, 1), terms.get(r));
        due("the SEED", values(y) + entries(y) + degrees(y), then);
        due("none to undo", y.count(3), 0);
        due("letters stay", y.count(2), 2);
        due("LISTS stay", y.look(1, 1), 44);
        due("a LIST stays", y.look(0, 0), 0);
        y.exchange(0);
        if (rows > 0) y.start(0, 1, 5);
      }
      due("a ROW comes behind them", y.row(1, 1), rows < 4 ? rows : -6);
      y.on();
      due("STARTS", starts(y), "1 3 5 ");
    }
  }

  // ---- refusals

  record Refused(String call, Call does, long answer, int count) {}

  static final List<Refused> REFUSED = new ArrayList<>();
  static void refused(String call, Call does, long answer, int count) { REFUSED.add(new Refused(call, does, answer, count)); }

  /** As many ROWS as told, three LISTS of 4, 0 and none, a SEED of 3, two to undo, an IMAGE, letters. */
  static ExchangeRows rich(int rows) {
    ExchangeRows x = new ExchangeRows();
    addRow(x, 3, 2, 1, 2, 3, 4);
    addRow(x, 1, 1, 1, 3);
    addRow(x, 0, 3, 2, 5);
    if (rows > 3) addRow(x, 6, 1);
    x.image();
    x.start(2, 0, 7);
    fill(x, 0, 1, 10001, -3, 4);
    x.list(1, 0);
    walk(x, "n3;b012;b12-1;s03;s25;m1;w01;");
    x.exchange(2);
    for (char c : "s12;m".toCharArray()) x.letter(c);
    return x;
  }

  /** All that can be asked, then all that was kept: for objects that are asked no more. */
  static String all(ExchangeRows x) {
    StringBuilder b = new StringBuilder();
    for (int what = 0; what <= 5; what++) b.append(x.count(what)).append(' ');
    for (int r = 0; r < x.count(0); r++) b.append(Arrays.toString(terms(x, r))).append(x.of(r, 0)).append(x.of(r, 1)).append(x.of(r, 4)).append(x.of(r, 5));
    for (int l = 0; l < 3; l++) for (int i = 0; i < 6; i++) b.append(x.look(l, i)).append(' ');
    b.append(values(x)).append(entries(x)).append(degrees(x));
    while (x.count(3) > 0) { x.undo(); b.append(values(x)).append(entries(x)).append(degrees(x)); }
    b.append(starts(x));
    x.letter('1');
    x.letter(';');
    b.append(x.walk()).append(values(x)).append(x.on()).append(values(x)).append(entries(x)).append(starts(x)).append(x.count(0));
    return b.toString();
  }

  static void refusals(int rows) {
    String still = all(rich(rows));
    for (Refused r : REFUSED) {
      ExchangeRows x = rich(rows);
      int[] before = new int[6];
      for (int k = 0; k < 6; k++) before[k] = x.count(11 + k);
      due(r.call, r.does.on(x), r.answer);
      for (int k = 0; k < 6; k++) due(r.call + ": count(" + (11 + k) + ")", x.count(11 + k) - before[k], r.count == -1 - k ? 1 : 0);
      due(r.call + ": nothing changes", all(x), still);
    }
    REFUSED.clear();
  }

  static void whatIsRefused() {
    sentence("REFUSALS: the call answers the number, the first that fits in the order in which it tells them; nothing changes but how many there were");
    refused("row(7, -1)", x -> x.row(7, -1), -2, -2);
    refused("row(-1, 10)", x -> x.row(-1, 10), -2, -2);
    refused("row(0, -1)", x -> x.row(0, -1), -4, -4);
    refused("row(0, 10)", x -> x.row(0, 10), -6, -6);
    refused("start(3, -1, 10)", x -> x.start(3, -1, 10), -1, -1);
    refused("start(0, -1, 10)", x -> x.start(0, -1, 10), -4, -4);
    refused("start(0, 4, 0)", x -> x.start(0, 4, 0), -4, -4);
    refused("start(0, 4, 1)", x -> x.start(0, 4, 1), -6, -6);
    refused("start(0, 0, 10)", x -> x.start(0, 0, 10), -6, -6);
    refused("of(3, 7)", x -> x.of(3, 7), -1, -1);
    refused("of(0, 7)", x -> x.of(0, 7), -2, -2);
    refused("term(3, -1)", x -> x.term(3, -1), FAR + 1, -1);
    refused("term(0, -1)", x -> x.term(0, -1), FAR + 4, -4);
    refused("term(1, 3)", x -> x.term(1, 3), FAR + 3, -3);
    refused("kept(3, -1, 2)", x -> x.kept(3, -1, 2), FARTHER + 1, -1);
    refused("kept(0, -1, 2)", x -> x.kept(0, -1, 2), FARTHER + 2, -2);
    refused("kept(0, -1, 1)", x -> x.kept(0, -1, 1), FARTHER + 4, -4);
    refused("kept(1, 1, 1)", x -> x.kept(1, 1, 1), FARTHER + 3, -3);
    refused("stays(3)", x -> x.stays(3), -1, -1);
    refused("common(3)", x -> x.common(3), -1, -1);
    refused("divided(3, 1)", x -> x.divided(3, 1), -1, -1);
    refused("divided(3, 10000)", x -> x.divided(3, 10000), -1, -1);
    refused("divided(0, 1)", x -> x.divided(0, 1), -4, -4);
    refused("divided(0, 10000)", x -> x.divided(0, 10000), -6, -6);
    refused("unlike(0, 3)", x -> x.unlike(0, 3), -1, -1);
    refused("unlike(3, 3)", x -> x.unlike(3, 3), -1, -1);
    refusals(3);
    refused("row(7, -1), four there", x -> x.row(7, -1), -2, -2);
    refused("row(0, -1), four there", x -> x.row(0, -1), -4, -4);
    refused("row(0, 0), four there", x -> x.row(0, 0), -6, -6);
    refused("stays(3) of an EIGHT", x -> x.stays(3), -3, -3);
    refused("kept(3, 0, 0) of an EIGHT", x -> x.kept(3, 0, 0), FARTHER + 3, -3);
    refusedSeeds();
    refusedLists();
    refusals(4);
  }
  static void refusedSeeds() {
    refused("seed(1)", x -> x.seed(1), -4, -4);
    refused("seed(5)", x -> x.seed(5), -6, -6);
    refused("table(3, 0, -10)", x -> x.table(3, 0, -10), FAR + 1, -1);
    refused("table(0, 3, 10)", x -> x.table(0, 3, 10), FAR + 1, -1);
    refused("table(2, 2, 10)", x -> x.table(2, 2, 10), FAR + 1, -1);
    refused("table(0, 1, -10)", x -> x.table(0, 1, -10), FAR + 4, -4);
    refused("table(0, 1, 10)", x -> x.table(0, 1, 10), FAR + 6, -6);
    refused("begins(3, 0)", x -> x.begins(3, 0), -1, -1);
    refused("begins(3, 10)", x -> x.begins(3, 10), -1, -1);
    refused("begins(0, 0)", x -> x.begins(0, 0), -4, -4);
    refused("begins(0, 10)", x -> x.begins(0, 10), -6, -6);
    refused("entry(0, 3)", x -> x.entry(0, 3), FAR + 1, -1);
    refused("value(3, 2)", x -> x.value(3, 2), -1, -1);
    refused("value(0, 2)", x -> x.value(0, 2), -2, -2);
    refused("power(3, 0)", x -> x.power(3, 0), FAR + 1, -1);
    refused("exchange(3)", x -> x.exchange(3), -1, -1);
    refused("letter(-1)", x -> x.letter(-1), -4, -4);
    refused("letter(256)", x -> x.letter(256), -6, -6);
    refused("whole(3)", x -> x.whole(3), -1, -1);
    refused("sinks(2)", x -> x.sinks(2), -2, -2);
    refused("ring(0, 3)", x -> x.ring(0, 3), -1, -1);
    refused("ring(1, 1)", x -> x.ring(1, 1), -1, -1);
    refused("reached(-1, 4)", x -> x.reached(-1, 4), -4, -4);
    refused("reached(5, 4)", x -> x.reached(5, 4), -6, -6);
    refused("reached(4, 4)", x -> x.reached(4, 4), -2, -2);
    refused("fewest(-1, 1, -1)", x -> x.fewest(-1, 1, -1), -4, -4);
    refused("fewest(1, 0, -1)", x -> x.fewest(1, 0, -1), -4, -4);
    refused("fewest(1, 1, -2)", x -> x.fewest(1, 1, -2), -4, -4);
    refused("fewest(0, 1, -1)", x -> x.fewest(0, 1, -1), -9, 0);
    refused("lots(0, 0, 2)", x -> x.lots(0, 0, 2), -4, -4);
    refused("lots(31, 0, 2)", x -> x.lots(31, 0, 2), -6, -6);
    refused("lots(30, 0, 2)", x -> x.lots(30, 0, 2), -2, -2);
    refused("count(17)", x -> x.count(17), -9, 0);
    refused("count(-1)", x -> x.count(-1), -9, 0);
  }
  static void refusedLists() {
    refused("laws(3, -1)", x -> x.laws(3, -1), -1, -1);
    refused("laws(3, 10)", x -> x.laws(3, 10), -1, -1);
    refused("laws(2, -1)", x -> x.laws(2, -1), -4, -4);
    refused("laws(2, 10)", x -> x.laws(2, 10), -6, -6);
    refused("laws(2, 9)", x -> x.laws(2, 9), -11, 0);
    refused("laws(0, 9)", x -> x.laws(0, 9), -3, -3);
    refused("figures(3, 7)", x -> x.figures(3, 7), -1, -1);
    refused("figures(2, 7)", x -> x.figures(2, 7), -2, -2);
    refused("figures(2, 6)", x -> x.figures(2, 6), -11, 0);
    refused("figures(0, 6)", x -> x.figures(0, 6), -3, -3);
    refused("judge(3, 0)", x -> x.judge(3, 0), -1, -1);
    refused("judge(2, 4)", x -> x.judge(2, 4), -1, -1);
    refused("judge(2, 0)", x -> x.judge(2, 0), -11, 0);
    refused("list(3, 41)", x -> x.list(3, 41), -1, -1);
    refused("list(3, -1)", x -> x.list(3, -1), -1, -1);
    refused("list(0, 41)", x -> x.list(0, 41), -6, -6);
    refused("list(0, -1)", x -> x.list(0, -1), -14, 0);
    refused("put(3, 9, 0)", x -> x.put(3, 9, 0), -1, -1);
    refused("put(2, -1, 0)", x -> x.put(2, -1, 0), -11, 0);
    refused("put(0, 4, 0)", x -> x.put(0, 4, 0), -13, 0);
    refused("look(3, 9)", x -> x.look(3, 9), FARTHER + 1, -1);
    refused("look(2, -1)", x -> x.look(2, -1), FARTHER + 11, 0);
    refused("look(0, 4)", x -> x.look(0, 4), FARTHER + 13, 0);
    refused("lays(3, 9, 0)", x -> x.lays(3, 9, 0), -1, -1);
    refused("lays(2, -1, 4)", x -> x.lays(2, -1, 4), -1, -1);
    refused("lays(2, -1, 0)", x -> x.lays(2, -1, 0), -11, 0);
    refused("lays(0, 4, 0)", x -> x.lays(0, 4, 0), -13, 0);
    refused("lays(1, 0, 0)", x -> x.lays(1, 0, 0), -13, 0);
  }

  static void refusalsThatNeedAState() {
    sentence("exchange: -6 it can't be; letter: -6 with 72; undo: -3; on: -3: nothing changes but how many there were");
    ExchangeRows x = seed("b019;m0;m1;"), y = seed("b019;m0;m1;");
    due("can't be", x.exchange(0), -6);
    for (int i = 0; i < 72; i++) { x.letter('m'); y.letter('m'); }
    due("72", x.letter('m'), -6);
    due("no IMAGE", x.on(), -3);
    due("counted", x.count(16) * 10 + x.count(13), 21);
    due("nothing changes", all(x), all(y));
    ExchangeRows z = new ExchangeRows();
    due("none to undo", z.undo(), -3);
    due("nothing changes", all(z), all(new ExchangeRows()));
    sentence("count: 11 .. 16 REFUSALS -1 .. -6; -9 for another what");
    ExchangeRows v = new ExchangeRows();
    for (int i = 0; i < 1; i++) v.whole(9);
    for (int i = 0; i < 2; i++) v.sinks(9);
    for (int i = 0; i < 3; i++) v.undo();
    for (int i = 0; i < 4; i++) v.letter(-1);
    for (int i = 0; i < 6; i++) v.letter(256);
    int[] want = {1, 2, 3, 4, 0, 6};
    for (int k = 0; k < 6; k++) due("count(" + (11 + k) + ")", v.count(11 + k), want[k]);
    for (int what : new int[] {-1, 6, 7, 8, 9, 10, 17, LEAST, MOST}) due("another what", v.count(what), -9);
    for (int k = 0; k < 6; k++) due("not counted", v.count(11 + k), want[k]);
    sentence("count: 4 how many b(i, j) aren't 0, 5 the greatest d(i, c)");
    due("none", v.count(4), 0);
    due("0 when BEGUN", v.count(5), 0);
    ExchangeRows full = seed("n4;b011;b021;b031;b121;b131;b231;");
    due("all but four", full.count(4), 12);
  }

  static void fiveHundredAndTwelveCalls() {
    sentence("An object is used for at most 512 calls");
    ExchangeRows x = new ExchangeRows();
    x.table(0, 1, 1);
    // Five and five come round: 500 EXCHANGES are 50 rounds.
    for (int i = 0; i < 500; i++) x.exchange(i % 2);
    due("round and round", x.value(0, 0) * 10 + x.value(1, 0), 11);
    due("d", x.power(0, 0) + x.power(1, 1), -2);
    due("the 8 latest", x.count(3), 8);
    for (int i = 0; i < 5; i++) x.undo();
    due("five back, in another order", x.value(0, 0) * 10 + x.value(1, 0), 11);
  }

  public static void main(String[] args) {
    rowsFourAtMost();
    figures0To9();
    startsAsManyAsTheOrder();
    eachTermByTheLaw();
    theDivisionLeavesARest();
    above100000000();
    aheadOfA60();
    ofARow();
    noSuchTerm();
    keptWhereAllTermsAre();
    keptAsAFraction();
    staysAsFarAsThereIsOne();
    firstCommon();
    dividedBy();
    unlikeOrOnlyOne();
    lettersOfASeed();
    noSuchLetter();
    entriesOfTheTable();
    startsOfLetters();
    whatLeavesTheSeedBegun();
    upAndDown();
    newEntries();
    greatOnes();
    wholeOnes();
    sinksAndSources();
    rings();
    reachedByFewAndMany();
    fewestToAValue();
    lotsAreDrawn();
    lettersCome();
    theFirstLetterThatGoesOnNoWalk();
    theFirstStatementThatCantBe();
    listsOf40AtMost();
    termsAreLaid();
    madeByLaws();
    listsAreJudged();
    eightAtMostAreUndone();
    whatLeavesNoneToUndo();
    theImage();
    whatIsRefused();
    refusalsThatNeedAState();
    fiveHundredAndTwelveCalls();
    System.out.println("SentenceTest: " + sentences + " sentences, " + asked + " answers, " + wrong + " wrong");
    if (wrong > 0) System.exit(1);
  }
}
