import java.math.BigInteger;
import java.util.ArrayDeque;
import java.util.ArrayList;
import java.util.Arrays;
import java.util.Collections;
import java.util.Deque;
import java.util.HashSet;
import java.util.LinkedHashMap;
import java.util.List;
import java.util.Map;
import java.util.Set;
import java.util.regex.Matcher;
import java.util.regex.Pattern;

/**
 * The document once more, told as plainly as can be: big numbers, texts as keys, every way tried from the beginning.
 * It shares no code with the class, so that a slip in one shows against the other.
 */
final class PlainModel {
  static final int[] ORDER = {2, 2, 3, 4, 5, 6, 8};
  static final BigInteger GREAT = BigInteger.valueOf(1000000000);

  record Frac(BigInteger above, BigInteger below) implements Comparable<Frac> {
    static Frac of(BigInteger a, BigInteger b) {
      BigInteger g = a.gcd(b);
      if (b.signum() < 0) g = g.negate();
      return new Frac(a.divide(g), b.divide(g));
    }
    static Frac of(long a, long b) { return of(BigInteger.valueOf(a), BigInteger.valueOf(b)); }
    Frac times(Frac o) { return of(above.multiply(o.above), below.multiply(o.below)); }
    Frac by(Frac o) { return of(above.multiply(o.below), below.multiply(o.above)); }
    Frac plus(Frac o) { return of(above.multiply(o.below).add(o.above.multiply(below)), below.multiply(o.below)); }
    boolean great() { return above.abs().compareTo(GREAT) > 0 || below.compareTo(GREAT) > 0; }
    public int compareTo(Frac o) { return above.multiply(o.below).compareTo(o.above.multiply(below)); }
  }

  static final class Row {
    int law, figure;
    int[] starts;
    Row(int law, int figure) { this.law = law; this.figure = figure; starts = new int[ORDER[law]]; Arrays.fill(starts, 1); }
    Row copy() { Row r = new Row(law, figure); r.starts = starts.clone(); return r; }

    /** {terms, {why, left}} */
    long[][] grow() {
      List<Long> a = new ArrayList<>();
      for (int s : starts) a.add((long) s);
      long why = 0, left = 0;
      while (a.size() < 60) {
        BigInteger p = product(law, figure, a, a.size());
        BigInteger d = law == 0 ? BigInteger.ONE : BigInteger.valueOf(a.get(a.size() - ORDER[law]));
        BigInteger[] qr = p.divideAndRemainder(d);
        if (qr[1].signum() != 0) { why = 1; left = qr[1].longValueExact(); break; }
        if (qr[0].abs().compareTo(BigInteger.valueOf(100000000)) > 0) { why = 2; break; }
        a.add(qr[0].longValueExact());
      }
      return new long[][] {a.stream().mapToLong(Long::longValue).toArray(), {why, left}};
    }
    long[] terms() { return grow()[0]; }

    Frac kept(long n) {
      long[] a = terms();
      int need = law == 0 ? 2 : law == 1 ? 3 : law == 3 ? 4 : 99;
      if (n + need > a.length) return null;
      for (int i = (int) n; i < n + need; i++) if (a[i] < 1 || a[i] > 9999) return null;
      int i = (int) n;
      if (law == 0) return Frac.of(a[i] * a[i] + a[i + 1] * a[i + 1] - figure * a[i] * a[i + 1], 1);
      if (law == 1) return Frac.of(a[i] + a[i + 2], a[i + 1]);
      long w = a[i], x = a[i + 1], y = a[i + 2], z = a[i + 3];
      return Frac.of(w * z, x * y).plus(Frac.of(x * x, w * y)).plus(Frac.of(y * y, x * z)).plus(Frac.of(figure * x * y, w * z));
    }
  }

  static BigInteger product(int law, int f, List<Long> a, int n) {
    int[][] pairs = {{}, {1, 1}, {1, 2}, {1, 3}, {1, 4}, {1, 5}, {1, 7}};
    BigInteger ff = BigInteger.valueOf(f);
    if (law == 0) return ff.multiply(back(a, n, 1)).subtract(back(a, n, 2));
    BigInteger sum = back(a, n, pairs[law][0]).multiply(back(a, n, pairs[law][1]));
    if (law == 1 || law == 2) return sum.add(ff);
    if (law == 3) return sum.add(ff.multiply(back(a, n, 2).pow(2)));
    if (law == 4) return sum.add(ff.multiply(back(a, n, 2)).multiply(back(a, n, 3)));
    if (law == 5) return sum.add(ff.multiply(back(a, n, 2)).multiply(back(a, n, 4))).add(back(a, n, 3).pow(2));
    return sum.add(back(a, n, 2).multiply(back(a, n, 6))).add(ff.multiply(back(a, n, 3)).multiply(back(a, n, 5))).add(back(a, n, 4).pow(2));
  }
  static BigInteger back(List<Long> a, int n, int s) { return BigInteger.valueOf(a.get(n - s)); }

  static final class Seed {
    int r;
    int[][] b;
    int[] starts;
    Frac[] values;
    int[][] d;
    Seed(int r) { this.r = r; b = new int[r][r]; starts = new int[r]; Arrays.fill(starts, 1); begin(); }
    void begin() {
      values = new Frac[r];
      d = new int[r][r];
      for (int i = 0; i < r; i++) { values[i] = Frac.of(starts[i], 1); d[i][i] = -1; }
    }
    Seed copy() {
      Seed s = new Seed(r);
      for (int i = 0; i < r; i++) { s.b[i] = b[i].clone(); s.d[i] = d[i].clone(); }
      s.starts = starts.clone();
      s.values = values.clone();
      return s;
    }
    boolean has(int i) { return 0 <= i && i < r; }

    Frac side(int k, int sign) {
      Frac f = Frac.of(1, 1);
      for (int i = 0; i < r; i++) for (int t = 0; t < sign * b[i][k]; t++) { f = f.times(values[i]); if (f.great()) return null; }
      return f;
    }
    /** The SEED behind the EXCHANGE of k; null if it can't be. */
    Seed exchanged(int k) {
      Frac up = side(k, 1), down = side(k, -1);
      if (up == null || down == null) return null;
      Frac sum = up.plus(down);
      if (sum.great()) return null;
      Frac v = sum.by(values[k]);
      if (v.great()) return null;
      Seed s = copy();
      s.values[k] = v;
      for (int c = 0; c < r; c++) {
        int plus = 0, minus = 0;
        for (int i = 0; i < r; i++) { if (b[i][k] > 0) plus += b[i][k] * d[i][c]; if (b[i][k] < 0) minus += -b[i][k] * d[i][c]; }
        s.d[k][c] = Math.max(plus, minus) - d[k][c];
      }
      for (int i = 0; i < r; i++) for (int j = 0; j < r; j++) {
        s.b[i][j] = i == k || j == k ? -b[i][j] : b[i][j] + (Math.abs(b[i][k]) * b[k][j] + b[i][k] * Math.abs(b[k][j])) / 2;
        if (Math.abs(s.b[i][j]) > 9) return null;
      }
      return s;
    }
    boolean whole(int i) {
      BigInteger p = values[i].above();
      for (int c = 0; c < r; c++) if (d[i][c] > 0) p = p.multiply(BigInteger.valueOf(starts[c]).pow(d[i][c]));
      return p.mod(values[i].below()).signum() == 0;
    }
    int greatest() { int g = d[0][0]; for (int[] row : d) for (int x : row) g = Math.max(g, x); return g; }
    List<Frac> sorted() { List<Frac> l = new ArrayList<>(Arrays.asList(values)); Collections.sort(l); return l; }
    String key() { return Arrays.toString(values) + Arrays.deepToString(b); }

    /** All SEEDS that n EXCHANGES or fewer lead to, with the first way to each. */
    Map<String, Map.Entry<String, Seed>> reached(int n) {
      Map<String, Map.Entry<String, Seed>> all = new LinkedHashMap<>();
      for (int len = 0; len <= n; len++) ways("", len, all);
      return all;
    }
    void ways(String way, int len, Map<String, Map.Entry<String, Seed>> all) {
      if (way.length() < len) { for (int k = 0; k < r; k++) ways(way + k, len, all); return; }
      Seed s = this;
      for (char c : way.toCharArray()) { s = s.exchanged(c - '0'); if (s == null) return; }
      all.putIfAbsent(s.key(), Map.entry(way, s));
    }
  }

  final List<Row> rows = new ArrayList<>();
  Seed seed = new Seed(2);
  final Deque<Seed> past = new ArrayDeque<>();
  String text = "";
  final int[][] lists = new int[3][];
  List<Row> imageRows = null;
  Seed imageSeed = null;
  final int[] refused = new int[7];

  int no(int why) { if (why >= -6) refused[-why]++; return why; }
  int far(int why) { return 1000000000 - no(why); }
  long farther(int why) { return 4000000000000000000L - no(why); }
  boolean isRow(int r) { return 0 <= r && r < rows.size(); }
  boolean isList(int l) { return 0 <= l && l < 3; }

  int row(int law, int figure) {
    if (law < 0 || law > 6) return no(-2);
    if (figure < 0) return no(-4);
    if (figure > 9 || rows.size() == 4) return no(-6);
    rows.add(new Row(law, figure));
    return rows.size() - 1;
  }
  int start(int row, int i, int v) {
    if (!isRow(row)) return no(-1);
    if (i < 0 || v < 1) return no(-4);
    Row r = rows.get(row);
    if (i >= r.starts.length || v > 9) return no(-6);
    int was = r.starts[i];
    r.starts[i] = v;
    return was;
  }
  int of(int row, int what) {
    if (!isRow(row)) return no(-1);
    Row r = rows.get(row);
    long[][] g = r.grow();
    if (what == 0) return r.law;
    if (what == 1) return r.figure;
    if (what == 2) return ORDER[r.law];
    if (what == 3) return g[0].length;
    if (what == 4) return (int) g[1][0];
    if (what == 5) return (int) g[1][1];
    if (what == 6) { for (int n = 0; n < g[0].length; n++) if (g[0][n] < 1) return n; return -9; }
    return no(-2);
  }
  int term(int row, int n) {
    if (!isRow(row)) return far(-1);
    if (n < 0) return far(-4);
    long[] a = rows.get(row).terms();
    return n < a.length ? (int) a[n] : far(-3);
  }
  long kept(int row, int n, int part) {
    if (!isRow(row)) return farther(-1);
    if (part < 0 || part > 1) return farther(-2);
    if (n < 0) return farther(-4);
    Frac f = rows.get(row).kept(n);
    if (f == null) return farther(-3);
    return (part == 0 ? f.above() : f.below()).longValueExact();
  }
  int stays(int row) {
    if (!isRow(row)) return no(-1);
    Frac first = rows.get(row).kept(0);
    if (first == null) return no(-3);
    for (int n = 1; ; n++) {
      Frac f = rows.get(row).kept(n);
      if (f == null) return -9;
      if (!f.equals(first)) return n;
    }
  }
  int common(int row) {
    if (!isRow(row)) return no(-1);
    long[] a = rows.get(row).terms();
    for (int n = 0; n + 1 < a.length; n++) if (!BigInteger.valueOf(a[n]).gcd(BigInteger.valueOf(a[n + 1])).equals(BigInteger.ONE)) return n;
    return -9;
  }
  int divided(int row, int d) {
    if (!isRow(row)) return no(-1);
    if (d < 2) return no(-4);
    if (d > 9999) return no(-6);
    long[] a = rows.get(row).terms();
    for (int n = 0; n < a.length; n++) if (a[n] == a[n] / d * d) return n;
    return -9;
  }
  int unlike(int row, int other) {
    if (!isRow(row) || !isRow(other)) return no(-1);
    return Arrays.mismatch(rows.get(row).terms(), rows.get(other).terms()) < 0 ? -9 : Arrays.mismatch(rows.get(row).terms(), rows.get(other).terms());
  }

  int seed(int n) {
    if (n < 2) return no(-4);
    if (n > 4) return no(-6);
    int was = seed.r;
    seed = new Seed(n);
    past.clear();
    return was;
  }
  int table(int i, int j, int v) {
    if (!seed.has(i) || !seed.has(j) || i == j) return far(-1);
    if (v < -9) return far(-4);
    if (v > 9) return far(-6);
    int was = seed.b[i][j];
    seed = seed.copy();
    seed.b[i][j] = v;
    seed.b[j][i] = -v;
    seed.begin();
    past.clear();
    return was;
  }
  int begins(int i, int v) {
    if (!seed.has(i)) return no(-1);
    if (v < 1) return no(-4);
    if (v > 9) return no(-6);
    int was = seed.starts[i];
    seed = seed.copy();
    seed.starts[i] = v;
    seed.begin();
    past.clear();
    return was;
  }
  int entry(int i, int j) { return seed.has(i) && seed.has(j) ? seed.b[i][j] : far(-1); }
  int value(int i, int part) {
    if (!seed.has(i)) return no(-1);
    if (part < 0 || part > 1) return no(-2);
    return (part == 0 ? seed.values[i].above() : seed.values[i].below()).intValueExact();
  }
  int power(int i, int c) { return seed.has(i) && seed.has(c) ? seed.d[i][c] : far(-1); }
  void remember() { past.push(seed); if (past.size() > 8) past.removeLast(); }
  int exchange(int k) {
    if (!seed.has(k)) return no(-1);
    Seed s = seed.exchanged(k);
    if (s == null) return no(-6);
    remember();
    seed = s;
    return seed.values[k].above().intValueExact();
  }

  static final Pattern WALK = Pattern.compile("(n[0-9];|b[0-9][0-9]-?[0-9];|s[0-9][0-9];|m[0-9];|w[0-9][0-9];)+");
  int walk() {
    String t = text;
    text = "";
    for (int p = 1; p <= t.length(); p++) {
      Matcher m = WALK.matcher(t.substring(0, p));
      if (!m.matches() && !m.hitEnd()) return -1000 - (p - 1);
    }
    if (!WALK.matcher(t).matches()) return -1000 - t.length();
    Seed s = seed;
    int at = 0, many = 0;
    for (String part : t.split(";")) {
      s = step(s, part);
      if (s == null) return -2000 - at;
      at += part.length() + 1;
      many++;
    }
    remember();
    seed = s;
    return many;
  }
  Seed step(Seed ahead, String part) {
    Seed s = ahead.copy();
    int x = part.charAt(1) - '0', y = part.length() > 2 ? part.charAt(2) - '0' : 0;
    switch (part.charAt(0)) {
      case 'n': return x < 2 || x > 4 ? null : new Seed(x);
      case 'm': return s.has(x) ? s.exchanged(x) : null;
      case 's':
        if (!s.has(x) || y < 1) return null;
        s.starts[x] = y;
        s.begin();
        return s;
      case 'b':
        if (!s.has(x) || !s.has(y) || x == y) return null;
        s.b[x][y] = Integer.parseInt(part.substring(3));
        s.b[y][x] = -s.b[x][y];
        s.begin();
        return s;
      default:
        if (!s.has(x) || !s.has(y) || x == y) return null;
        for (int i = 0; i < s.r; i++) {
          int p = i == x ? y : i == y ? x : i;
          s.values[i] = ahead.values[p];
          s.starts[i] = ahead.starts[p];
          for (int j = 0; j < s.r; j++) {
            int q = j == x ? y : j == y ? x : j;
            s.b[i][j] = ahead.b[p][q];
            s.d[i][j] = ahead.d[p][q];
          }
        }
        return s;
    }
  }
  int letter(int c) {
    if (c < 0) return no(-4);
    if (c > 255 || text.length() == 72) return no(-6);
    text += (char) c;
    return text.length();
  }
  int whole(int i) { return !seed.has(i) ? no(-1) : seed.whole(i) ? 1 : 0; }
  int sinks(int what) {
    if (what < 0 || what > 1) return no(-2);
    int bits = 0;
    for (int k = 0; k < seed.r; k++) {
      int low = 0, high = 0;
      for (int i = 0; i < seed.r; i++) { low = Math.min(low, seed.b[i][k]); high = Math.max(high, seed.b[i][k]); }
      if ((what == 0 ? low : high) == 0) bits += 1 << k;
    }
    return bits;
  }
  int ring(int i, int j) {
    if (!seed.has(i) || !seed.has(j) || i == j) return no(-1);
    Seed s = seed;
    for (int n = 1; n <= 20; n++) {
      s = s.exchanged(n % 2 == 1 ? i : j);
      if (s == null) return -9;
      if (s.sorted().equals(seed.sorted())) return n;
    }
    return -9;
  }
  int reached(int n, int what) {
    if (n < 0) return no(-4);
    if (n > 4) return no(-6);
    if (what < 0 || what > 3) return no(-2);
    Set<Frac> values = new HashSet<>();
    int greatest = Integer.MIN_VALUE, not = 0, many = 0;
    for (Map.Entry<String, Seed> e : seed.reached(n).values()) {
      Seed s = e.getValue();
      many++;
      values.addAll(Arrays.asList(s.values));
      greatest = Math.max(greatest, s.greatest());
      for (int i = 0; i < s.r; i++) if (!s.whole(i)) not++;
    }
    return what == 0 ? many : what == 1 ? values.size() : what == 2 ? greatest : not;
  }
  int fewest(int above, int below, int i) {
    if (above < 0 || below < 1 || i < -1) return no(-4);
    Frac told = Frac.of(above, below);
    for (Map.Entry<String, Seed> e : seed.reached(4).values()) {
      if (!Arrays.asList(e.getValue().values).contains(told)) continue;
      String way = e.getKey();
      return i == -1 ? way.length() : i < way.length() ? way.charAt(i) - '0' : -9;
    }
    return -9;
  }
  int lots(int n, int z, int what) {
    if (n < 1) return no(-4);
    if (n > 30) return no(-6);
    if (what < 0 || what > 1) return no(-2);
    Seed s = seed;
    int often = 0;
    BigInteger state = BigInteger.valueOf(z);
    for (int i = 0; i < n; i++) {
      state = BigInteger.valueOf(state.multiply(BigInteger.valueOf(1664525)).add(BigInteger.valueOf(1013904223)).intValue());
      int k = state.mod(BigInteger.ONE.shiftLeft(31)).divide(BigInteger.valueOf(256)).mod(BigInteger.valueOf(s.r)).intValueExact();
      Seed next = s.exchanged(k);
      if (next != null) { s = next; often++; }
    }
    return what == 0 ? often : s.greatest();
  }

  boolean outOfRange(int[] l) { for (int x : l) if (x < -10000 || x > 10000) return true; return false; }
  boolean made(int[] l, int law, int f) {
    List<Long> a = new ArrayList<>();
    for (int x : l) a.add((long) x);
    for (int n = ORDER[law]; n < l.length; n++) {
      BigInteger d = law == 0 ? BigInteger.ONE : back(a, n, ORDER[law]);
      if (d.signum() == 0) return false;
      BigInteger[] qr = product(law, f, a, n).divideAndRemainder(d);
      if (qr[1].signum() != 0 || !qr[0].equals(BigInteger.valueOf(l[n]))) return false;
    }
    return true;
  }
  int laws(int list, int figure) {
    if (!isList(list)) return no(-1);
    if (figure < 0) return no(-4);
    if (figure > 9) return no(-6);
    if (lists[list] == null) return -11;
    if (outOfRange(lists[list])) return no(-3);
    int bits = 0;
    for (int law = 0; law < 7; law++) if (made(lists[list], law, figure)) bits += 1 << law;
    return bits;
  }
  int figures(int list, int law) {
    if (!isList(list)) return no(-1);
    if (law < 0 || law > 6) return no(-2);
    if (lists[list] == null) return -11;
    if (outOfRange(lists[list])) return no(-3);
    int bits = 0;
    for (int f = 0; f < 10; f++) if (made(lists[list], law, f)) bits += 1 << f;
    return bits;
  }
  int judge(int list, int row) {
    if (!isList(list) || !isRow(row)) return no(-1);
    if (lists[list] == null) return -11;
    long[] a = rows.get(row).terms();
    for (int i = 0; i < lists[list].length; i++) if (i >= a.length || a[i] != lists[list][i]) return i;
    return -9;
  }
  int list(int list, int n) {
    if (!isList(list)) return no(-1);
    if (n > 40) return no(-6);
    if (n < 0) return -14;
    lists[list] = new int[n];
    return 1;
  }
  int put(int list, int i, int v) {
    if (!isList(list)) return no(-1);
    if (lists[list] == null) return -11;
    if (i < 0 || i >= lists[list].length) return -13;
    lists[list][i] = v;
    return 1;
  }
  long look(int list, int i) {
    if (!isList(list)) return farther(-1);
    if (lists[list] == null) return farther(-11);
    if (i < 0 || i >= lists[list].length) return farther(-13);
    return lists[list][i];
  }
  int lays(int list, int i, int row) {
    if (!isList(list) || !isRow(row)) return no(-1);
    if (lists[list] == null) return -11;
    if (i < 0 || i >= lists[list].length) return -13;
    long[] a = rows.get(row).terms();
    int many = Math.min(a.length, lists[list].length - i);
    for (int n = 0; n < many; n++) lists[list][i + n] = (int) a[n];
    return many;
  }

  int undo() {
    if (past.isEmpty()) return no(-3);
    seed = past.pop();
    return past.size();
  }
  int image() {
    imageRows = copies(rows);
    imageSeed = seed;
    return rows.size();
  }
  int on() {
    if (imageRows == null) return no(-3);
    rows.clear();
    rows.addAll(copies(imageRows));
    seed = imageSeed;
    past.clear();
    return rows.size();
  }
  static List<Row> copies(List<Row> from) { List<Row> l = new ArrayList<>(); for (Row r : from) l.add(r.copy()); return l; }
  int count(int what) {
    if (what == 0) return rows.size();
    if (what == 1) return seed.r;
    if (what == 2) return text.length();
    if (what == 3) return past.size();
    if (what == 4) { int n = 0; for (int[] r : seed.b) for (int x : r) if (x != 0) n++; return n; }
    if (what == 5) return seed.greatest();
    return what >= 11 && what <= 16 ? refused[what - 10] : -9;
  }
}
