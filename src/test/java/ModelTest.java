import java.util.Random;

/** Runs of calls by lot (always the same ones), each answer held against PlainModel's. */
public final class ModelTest {
  static final String[] CALLS = {"row", "start", "of", "term", "kept", "stays", "common", "divided", "unlike", "seed", "table", "begins",
    "entry", "value", "power", "exchange", "walk", "letter", "whole", "sinks", "ring", "reached", "fewest", "lots", "laws", "figures",
    "judge", "list", "put", "look", "lays", "undo", "image", "on", "count"};
  // How often each comes; a call that costs the model much comes seldom.
  static final int[] WEIGHT = {6, 10, 8, 6, 6, 4, 3, 4, 3, 1, 8, 4, 4, 6, 6, 25, 8, 5, 6, 4, 6, 2, 2, 3, 4, 4, 4, 4, 6, 4, 6, 6, 1, 1, 8};
  static final int[] EDGES = {Integer.MIN_VALUE, -2147483647, -10001, -10000, -10, -9, -2, -1, 10, 11, 16, 17, 30, 31, 39, 40, 41, 59, 60, 61,
    71, 72, 73, 255, 256, 9999, 10000, 10001, Integer.MAX_VALUE};
  static int wrong = 0;

  final Random lot;
  final ExchangeRows x = new ExchangeRows();
  final PlainModel m = new PlainModel();
  final StringBuilder told = new StringBuilder();
  int made = 0;

  ModelTest(long seed) { lot = new Random(seed); }

  int draw(int n) { return lot.nextInt(n); }
  int any() { return draw(30) == 0 ? EDGES[draw(EDGES.length)] : draw(10); }
  int row() { return draw(40) == 0 ? any() : draw(Math.max(1, m.rows.size())); }
  int rowLetter() { return draw(30) == 0 ? any() : draw(m.seed.r); }
  int list() { return draw(40) == 0 ? any() : draw(3); }
  int place() { return draw(20) == 0 ? EDGES[draw(EDGES.length)] : draw(14); }
  int figure() { return draw(30) == 0 ? any() : draw(4); }
  int small() { return draw(25) == 0 ? any() : draw(3) == 0 ? draw(19) - 9 : draw(5) - 2; }

  boolean due(String call, long got, long want) {
    made++;
    told.append(call).append(" -> ").append(got).append('\n');
    if (got == want) return true;
    wrong++;
    System.out.println("ModelTest: " + told + "  due is " + want);
    return false;
  }

  boolean calls(int many) {
    int sum = 0;
    for (int w : WEIGHT) sum += w;
    while (made < many) {
      int at = 0;
      for (int left = draw(sum); left >= WEIGHT[at]; at++) left -= WEIGHT[at];
      if (!(CALLS[at].equals("walk") && draw(4) > 0 ? words() : call(CALLS[at]))) return false;
    }
    return true;
  }

  boolean words() {
    StringBuilder b = new StringBuilder();
    for (int n = draw(6); n >= 0; n--) {
      int i = draw(m.seed.r), j = draw(m.seed.r);
      switch (draw(9)) {
        case 0: b.append('n').append(draw(4) == 0 ? draw(10) : 2 + draw(3)).append(';'); break;
        case 1: case 2: b.append('b').append(i).append(j).append(draw(3) == 0 ? "-" : "").append(draw(5) == 0 ? draw(10) : draw(3)).append(';'); break;
        case 3: b.append('s').append(i).append(draw(10)).append(';'); break;
        case 4: b.append('w').append(i).append(j).append(';'); break;
        default: b.append('m').append(i).append(';'); break;
      }
    }
    if (draw(5) == 0) b.setCharAt(draw(b.length()), (char) (draw(3) == 0 ? draw(256) : "nbsmw;-0123456789:/".charAt(draw(19))));
    if (draw(8) == 0) b.setLength(draw(b.length()));
    for (int i = 0; i < b.length(); i++) if (!due("letter(" + (int) b.charAt(i) + ")", x.letter(b.charAt(i)), m.letter(b.charAt(i)))) return false;
    return due("walk() of " + b, x.walk(), m.walk());
  }

  boolean call(String name) {
    int a = 0, b = 0, c = 0;
    switch (name) {
      case "row": a = draw(10) == 0 ? any() : draw(7); b = figure(); return due("row(" + a + ", " + b + ")", x.row(a, b), m.row(a, b));
      case "start": a = row(); b = draw(9) == 0 ? any() : draw(4); c = draw(2) == 0 ? 1 + draw(3) : any(); return due("start(" + a + ", " + b + ", " + c + ")", x.start(a, b, c), m.start(a, b, c));
      case "of": a = row(); b = draw(25) == 0 ? any() : draw(7); return due("of(" + a + ", " + b + ")", x.of(a, b), m.of(a, b));
      case "term": a = row(); b = draw(3) == 0 ? any() : draw(25); return due("term(" + a + ", " + b + ")", x.term(a, b), m.term(a, b));
      case "kept": a = row(); b = any(); c = draw(25) == 0 ? any() : draw(2); return due("kept(" + a + ", " + b + ", " + c + ")", x.kept(a, b, c), m.kept(a, b, c));
      case "stays": a = row(); return due("stays(" + a + ")", x.stays(a), m.stays(a));
      case "common": a = row(); return due("common(" + a + ")", x.common(a), m.common(a));
      case "divided": a = row(); b = draw(2) == 0 ? any() : 2 + draw(40); return due("divided(" + a + ", " + b + ")", x.divided(a, b), m.divided(a, b));
      case "unlike": a = row(); b = row(); return due("unlike(" + a + ", " + b + ")", x.unlike(a, b), m.unlike(a, b));
      case "seed": a = draw(3) == 0 ? any() : 2 + draw(3); return due("seed(" + a + ")", x.seed(a), m.seed(a));
      case "table": a = rowLetter(); b = rowLetter(); c = small(); return due("table(" + a + ", " + b + ", " + c + ")", x.table(a, b, c), m.table(a, b, c));
      case "begins": a = rowLetter(); b = any(); return due("begins(" + a + ", " + b + ")", x.begins(a, b), m.begins(a, b));
      case "entry": a = rowLetter(); b = rowLetter(); return due("entry(" + a + ", " + b + ")", x.entry(a, b), m.entry(a, b));
      case "value": a = rowLetter(); b = draw(20) == 0 ? any() : draw(2); return due("value(" + a + ", " + b + ")", x.value(a, b), m.value(a, b));
      case "power": a = rowLetter(); b = rowLetter(); return due("power(" + a + ", " + b + ")", x.power(a, b), m.power(a, b));
      case "exchange": a = rowLetter(); return due("exchange(" + a + ")", x.exchange(a), m.exchange(a));
      case "walk": return due("walk()", x.walk(), m.walk());
      case "letter": a = draw(4) == 0 ? any() : draw(256); return due("letter(" + a + ")", x.letter(a), m.letter(a));
      case "whole": a = rowLetter(); return due("whole(" + a + ")", x.whole(a), m.whole(a));
      case "sinks": a = draw(10) == 0 ? any() : draw(2); return due("sinks(" + a + ")", x.sinks(a), m.sinks(a));
      case "ring": a = rowLetter(); b = rowLetter(); return due("ring(" + a + ", " + b + ")", x.ring(a, b), m.ring(a, b));
      case "reached": a = draw(10) == 0 ? any() : draw(5); b = draw(20) == 0 ? any() : draw(4); return due("reached(" + a + ", " + b + ")", x.reached(a, b), m.reached(a, b));
      case "fewest": return fewest();
      case "lots": a = draw(9) == 0 ? any() : 1 + draw(30); b = lot.nextInt(); c = draw(20) == 0 ? any() : draw(2); return due("lots(" + a + ", " + b + ", " + c + ")", x.lots(a, b, c), m.lots(a, b, c));
      case "laws": a = list(); b = figure(); return due("laws(" + a + ", " + b + ")", x.laws(a, b), m.laws(a, b));
      case "figures": a = list(); b = draw(20) == 0 ? any() : draw(7); return due("figures(" + a + ", " + b + ")", x.figures(a, b), m.figures(a, b));
      case "judge": a = list(); b = row(); return due("judge(" + a + ", " + b + ")", x.judge(a, b), m.judge(a, b));
      case "list": a = list(); b = place(); return due("list(" + a + ", " + b + ")", x.list(a, b), m.list(a, b));
      case "put": a = list(); b = place(); c = draw(6) == 0 ? EDGES[draw(EDGES.length)] : draw(12) - 1; return due("put(" + a + ", " + b + ", " + c + ")", x.put(a, b, c), m.put(a, b, c));
      case "look": a = list(); b = place(); return due("look(" + a + ", " + b + ")", x.look(a, b), m.look(a, b));
      case "lays": a = list(); b = draw(2) == 0 ? 0 : place(); c = row(); return due("lays(" + a + ", " + b + ", " + c + ")", x.lays(a, b, c), m.lays(a, b, c));
      case "undo": return due("undo()", x.undo(), m.undo());
      case "image": return due("image()", x.image(), m.image());
      case "on": return due("on()", x.on(), m.on());
      default: a = draw(8) == 0 ? any() : draw(2) == 0 ? draw(6) : 11 + draw(6); return due("count(" + a + ")", x.count(a), m.count(a));
    }
  }

  /** Asks for a VALUE that stands some EXCHANGES away, as it is or not in least terms. */
  boolean fewest() {
    int a = any(), b = any(), c = draw(10) == 0 ? any() : draw(6) - 1;
    PlainModel.Seed s = m.seed;
    for (int n = draw(5); n > 0; n--) {
      PlainModel.Seed next = s.exchanged(draw(s.r));
      if (next != null) s = next;
    }
    PlainModel.Frac f = s.values[draw(s.r)];
    if (draw(6) > 0) { int t = 1 + draw(2); a = f.above().intValueExact() * t; b = f.below().intValueExact() * t; }
    return due("fewest(" + a + ", " + b + ", " + c + ")", x.fewest(a, b, c), m.fewest(a, b, c));
  }

  public static void main(String[] args) {
    int runs = Integer.getInteger("runs", 400);
    long calls = 0;
    for (int run = 1; run <= runs && wrong < 3; run++) {
      ModelTest t = new ModelTest(run);
      // 512 calls are promised; the last one of a run may be a whole WALK of letters.
      if (!t.calls(run % 10 == 0 ? 480 : 200)) System.out.println("  in run " + run);
      calls += t.made;
    }
    System.out.println("ModelTest: " + calls + " calls, " + wrong + " wrong");
    if (wrong > 0) System.exit(1);
  }
}
