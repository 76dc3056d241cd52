/** Promise by promise: ordinary inputs, the edges that the document names, wrong inputs; answers reckoned by hand. */
public final class PromiseTest {
  static final int FAR = 1000000000;
  static final long FARTHER = 4000000000000000000L;
  static final int LEAST = Integer.MIN_VALUE;
  static final int MOST = Integer.MAX_VALUE;
  static int wrong = 0;
  static int asked = 0;

  static void due(String call, long got, long want) {
    asked++;
    if (got != want) { wrong++; System.out.println("PromiseTest: promise " + call + " answered " + got + ", due is " + want); }
  }

  static ExchangeRows rowOf(int law, int figure, int... starts) {
    ExchangeRows x = new ExchangeRows();
    addRow(x, law, figure, starts);
    return x;
  }
  static void addRow(ExchangeRows x, int law, int figure, int... starts) {
    int row = x.row(law, figure);
    for (int i = 0; i < starts.length; i++) x.start(row, i, starts[i]);
  }
  static void rowIs(String what, ExchangeRows x, int length, int why, int left, int... terms) {
    due(what + " LENGTH", x.of(0, 3), length);
    due(what + " WHY", x.of(0, 4), why);
    due(what + " LEFT", x.of(0, 5), left);
    for (int n = 0; n < terms.length; n++) due(what + " a(" + n + ")", x.term(0, n), terms[n]);
    due(what + " behind all", x.term(0, length), FAR + 3);
  }
  static void fraction(String what, ExchangeRows x, int i, int above, int below) {
    due(what + " above", x.value(i, 0), above);
    due(what + " below", x.value(i, 1), below);
  }
  static int walk(ExchangeRows x, String words) {
    for (int i = 0; i < words.length(); i++) x.letter(words.charAt(i));
    return x.walk();
  }
  static ExchangeRows seedOf(String words) {
    ExchangeRows x = new ExchangeRows();
    due("18 a seed by " + words, walk(x, words) > 0 ? 1 : 0, 1);
    return x;
  }
  static void fill(ExchangeRows x, int list, int... v) {
    x.list(list, v.length);
    for (int i = 0; i < v.length; i++) due("30 put", x.put(list, i, v[i]), 1);
  }
  /** How many refusals -1 .. -6 there were, as digits. */
  static void refused(String what, ExchangeRows x, int want) {
    int all = 0;
    for (int k = 11; k <= 16; k++) all = all * 10 + x.count(k);
    due(what, all, want);
  }

  static void promise1() {
    ExchangeRows x = new ExchangeRows();
    due("1 rows", x.count(0), 0);
    due("1 letters of the seed", x.count(1), 2);
    for (int i = 0; i < 2; i++) {
      fraction("1 value", x, i, 1, 1);
      due("1 power", x.power(i, i), -1);
      due("1 power", x.power(i, 1 - i), 0);
      due("1 entry", x.entry(i, 1 - i), 0);
      due("1 start", x.begins(i, 1), 1);
    }
    for (int l = 0; l < 3; l++) due("1 lists are missing", x.look(l, 0), FARTHER + 11);
    due("1 letters", x.count(2), 0);
    due("1 undone", x.count(3), 0);
    refused("1 no refusals", x, 0);
    due("1 no image", x.on(), -3);
    due("1 nothing to undo", x.undo(), -3);
  }

  static void promise2() {
    ExchangeRows x = new ExchangeRows();
    due("2 law below", x.row(-1, 0), -2);
    due("2 law above", x.row(7, -1), -2);
    due("2 law far above", x.row(MOST, 99), -2);
    due("2 figure below", x.row(0, -1), -4);
    due("2 figure above", x.row(0, 10), -6);
    due("2 refusals add none", x.count(0), 0);
    due("2 first", x.row(6, 9), 0);
    due("2 second", x.row(0, 0), 1);
    due("2 third", x.row(3, 4), 2);
    due("2 fourth", x.row(5, 1), 3);
    due("2 no fifth", x.row(5, 1), -6);
    due("2 no fifth, figure below", x.row(5, -1), -4);
    due("2 no fifth, law above", x.row(7, -1), -2);
    due("2 four are there", x.count(0), 4);
    refused("2 refusals", x, 40202);
    for (int i = 0; i < 8; i++) due("2 starts 1", x.start(0, i, 1), 1);
    due("2 law", x.of(2, 0), 3);
    due("2 figure", x.of(2, 1), 4);
    ExchangeRows y = new ExchangeRows();
    y.image();
    addRow(y, 0, 3, 7, 8);
    y.on();
    due("2 a row where one was", y.row(1, 0), 0);
    due("2 its starts are 1", y.start(0, 0, 1), 1);
    due("2 its starts are 1, too", y.start(0, 1, 1), 1);
  }

  static void promise3() {
    ExchangeRows x = new ExchangeRows();
    due("3 no row", x.start(0, 0, 1), -1);
    x.row(3, 1);
    due("3 no row behind", x.start(1, -1, 0), -1);
    due("3 no row ahead", x.start(-1, 0, 1), -1);
    due("3 was 1", x.start(0, 3, 9), 1);
    due("3 was 9", x.start(0, 3, 4), 9);
    due("3 is told", x.term(0, 3), 4);
    due("3 i below", x.start(0, -1, 10), -4);
    due("3 v below", x.start(0, 4, 0), -4);
    due("3 no such i", x.start(0, 4, 1), -6);
    due("3 v above", x.start(0, 0, 10), -6);
    due("3 v far above", x.start(0, MOST, MOST), -6);
    due("3 v far below", x.start(0, 0, LEAST), -4);
    due("3 nothing changes", x.start(0, 0, 1), 1);
    due("3 term made anew", x.term(0, 4), 5);
    refused("3 refusals", x, 300303);
    ExchangeRows y = rowOf(6, 0);
    due("3 eighth", y.start(0, 7, 2), 1);
    due("3 no ninth", y.start(0, 8, 2), -6);
    ExchangeRows z = rowOf(0, 0);
    due("3 no third of a line", z.start(0, 2, 2), -6);
  }

  static void promise4() {
    int[] orders = {2, 2, 3, 4, 5, 6, 8};
    for (int law = 0; law < 7; law++) {
      ExchangeRows x = rowOf(law, 7 - law);
      due("4 law", x.of(0, 0), law);
      due("4 figure", x.of(0, 1), 7 - law);
      due("4 order", x.of(0, 2), orders[law]);
    }
    rowIs("4 line 3", rowOf(0, 3), 21, 2, 0, 1, 1, 2, 5, 13);
    rowIs("4 line below none", rowOf(0, 9, 9, 1), 12, 2, 0, 9, 1, 0, -1, -9, -80, -711, -6319);
    rowIs("4 line without end", rowOf(0, 2, 9, 7), 60, 0, 0, 9, 7, 5, 3, 1, -1, -3);
    rowIs("4 square", rowOf(1, 1, 1, 3), 3, 1, 2, 1, 3, 10);
    rowIs("4 square that doubles", rowOf(1, 0, 2, 4), 26, 2, 0, 2, 4, 8, 16);
    rowIs("4 square at rest", rowOf(1, 0, 4, 6), 3, 1, 3, 4, 6, 9);
    rowIs("4 square at once", rowOf(1, 0, 9, 4), 2, 1, 7, 9, 4);
    rowIs("4 three", rowOf(2, 4, 1, 2, 3), 22, 2, 0, 1, 2, 3, 10, 17, 58, 99, 338, 577, 1970);
    rowIs("4 four", rowOf(3, 2, 1, 2, 3, 4), 7, 1, 2, 1, 2, 3, 4, 26, 55, 524);
    rowIs("4 five", rowOf(4, 3, 1, 2, 3, 4, 5), 9, 1, 2, 1, 2, 3, 4, 5, 46, 99, 362, 3868);
    rowIs("4 six", rowOf(5, 2, 1, 2, 3, 4, 5, 6), 7, 1, 1, 1, 2, 3, 4, 5, 6, 58);
    rowIs("4 eight", rowOf(6, 2, 1, 2, 3, 4, 5, 6, 7, 8), 10, 1, 2, 1, 2, 3, 4, 5, 6, 7, 8, 110, 234);
    rowIs("4 the last ahead of 100000000", rowOf(3, 3, 1, 1, 2, 1), 11, 2, 0, 1, 1, 2, 1, 13, 29, 268, 6007, 29975, 4009843, 99935182);
    rowIs("4 the first behind 100000000", rowOf(3, 6, 1, 6, 6, 6), 8, 2, 0, 1, 6, 6, 6, 252, 288, 63792, 2762208);
    ExchangeRows anew = rowOf(1, 0, 9, 4);
    rowIs("4 a rest, first", anew, 2, 1, 7, 9, 4);
    anew.start(0, 0, 1);
    rowIs("4 too great, then", anew, 14, 2, 0, 1, 4, 16, 64);
    anew.start(0, 1, 1);
    rowIs("4 without end, then", anew, 60, 0, 0, 1, 1, 1, 1);
    due("4 first below 1 is 0", rowOf(0, 9, 9, 1).of(0, 6), 2);
    due("4 first below 1", rowOf(0, 2, 9, 7).of(0, 6), 5);
    due("4 none below 1", rowOf(0, 3).of(0, 6), -9);
    ExchangeRows x = rowOf(0, 0);
    due("4 no row", x.of(1, 9), -1);
    due("4 no row ahead", x.of(-1, 0), -1);
    due("4 what above", x.of(0, 7), -2);
    due("4 what below", x.of(0, -1), -2);
    refused("4 refusals", x, 220000);
  }

  static void promise5() {
    ExchangeRows x = rowOf(0, 3);
    due("5 a(0)", x.term(0, 0), 1);
    due("5 a(20)", x.term(0, 20), 63245986);
    due("5 none", x.term(0, 21), FAR + 3);
    due("5 far behind", x.term(0, MOST), FAR + 3);
    due("5 below", x.term(0, -1), FAR + 4);
    due("5 far below", x.term(0, LEAST), FAR + 4);
    due("5 no row", x.term(1, -1), FAR + 1);
    due("5 no row ahead", x.term(-1, 0), FAR + 1);
    x.row(0, 2);
    due("5 a(59)", x.term(1, 59), 1);
    due("5 no a(60)", x.term(1, 60), FAR + 3);
    refused("5 refusals", x, 203200);
  }

  static void keptIs(String what, ExchangeRows x, int n, long above, long below) {
    due(what + " above", x.kept(0, n, 0), above);
    due(what + " below", x.kept(0, n, 1), below);
  }

  static void promise6() {
    keptIs("6 line", rowOf(0, 3, 2, 9), 0, 31, 1);
    keptIs("6 line of 0", rowOf(0, 2), 3, 0, 1);
    keptIs("6 line to 9959", rowOf(0, 3, 3, 5), 8, -11, 1);
    keptIs("6 none with 26073", rowOf(0, 3, 3, 5), 9, FARTHER + 3, FARTHER + 3);
    keptIs("6 none with 10009", rowOf(0, 5), 6, FARTHER + 3, FARTHER + 3);
    keptIs("6 none with 0", rowOf(0, 9, 9, 1), 1, FARTHER + 3, FARTHER + 3);
    keptIs("6 line ahead of 0", rowOf(0, 9, 9, 1), 0, 1, 1);
    keptIs("6 square", rowOf(1, 1), 0, 3, 1);
    keptIs("6 square in least terms", rowOf(1, 0, 4, 6), 0, 13, 6);
    keptIs("6 no third of a square", rowOf(1, 0, 4, 6), 1, FARTHER + 3, FARTHER + 3);
    keptIs("6 square to 2089", rowOf(1, 3), 4, 5, 1);
    keptIs("6 square with 10009", rowOf(1, 3), 5, FARTHER + 3, FARTHER + 3);
    // 1, 2, 3, 4 by 2: 4/6, 4/4 .. : w z/(x y) 4/6, x x/(w y) 4/3, y y/(x z) 9/8, F x y/(w z) 12/4.
    keptIs("6 four", rowOf(3, 2, 1, 2, 3, 4), 0, 49, 8);
    // 2, 3, 4, 26: 52/12, 9/8, 16/78, 24/52.
    keptIs("6 four at 1", rowOf(3, 2, 1, 2, 3, 4), 1, 49, 8);
    keptIs("6 four at 3", rowOf(3, 2, 1, 2, 3, 4), 3, 49, 8);
    keptIs("6 no four at 4", rowOf(3, 2, 1, 2, 3, 4), 4, FARTHER + 3, FARTHER + 3);
    keptIs("6 four to 9984", rowOf(3, 6, 4, 2, 9, 1), 3, 407, 6);
    keptIs("6 none of a three", rowOf(2, 1), 0, FARTHER + 3, FARTHER + 3);
    keptIs("6 none of a five", rowOf(4, 1), 0, FARTHER + 3, FARTHER + 3);
    keptIs("6 none of a six", rowOf(5, 1), 0, FARTHER + 3, FARTHER + 3);
    keptIs("6 none of an eight", rowOf(6, 1), 0, FARTHER + 3, FARTHER + 3);
    keptIs("6 far behind", rowOf(0, 2), MOST, FARTHER + 3, FARTHER + 3);
    keptIs("6 at 58", rowOf(0, 2), 58, 0, 1);
    keptIs("6 at 59", rowOf(0, 2), 59, FARTHER + 3, FARTHER + 3);
    ExchangeRows x = rowOf(0, 3);
    due("6 no row", x.kept(1, -1, 2), FARTHER + 1);
    due("6 no part", x.kept(0, -1, 2), FARTHER + 2);
    due("6 no part below", x.kept(0, -1, -1), FARTHER + 2);
    due("6 below", x.kept(0, -1, 0), FARTHER + 4);
    due("6 far below", x.kept(0, LEAST, 0), FARTHER + 4);
    due("6 none", x.kept(0, 20, 1), FARTHER + 3);
    refused("6 refusals", x, 121200);
  }

  static void promise7() {
    due("7 line", rowOf(0, 3).stays(0), -9);
    due("7 square", rowOf(1, 1).stays(0), -9);
    due("7 four", rowOf(3, 1).stays(0), -9);
    due("7 square that doubles", rowOf(1, 0, 2, 4).stays(0), -9);
    due("7 square with one kept", rowOf(1, 0, 4, 6).stays(0), -9);
    due("7 none with a three", rowOf(2, 1).stays(0), -3);
    due("7 none at 0", rowOf(1, 0, 9, 4).stays(0), -3);
    ExchangeRows x = rowOf(3, 3, 9, 9, 9, 9);
    due("7 four at 0", x.kept(0, 0, 0), 6);
    due("7 stays as far as there is one", x.stays(0), -9);
    due("7 no row", x.stays(1), -1);
    due("7 no row ahead", x.stays(-1), -1);
    x.row(6, 1);
    due("7 an eight", x.stays(1), -3);
    refused("7 refusals", x, 201000);
  }

  static void promise8() {
    due("8 none", rowOf(0, 3).common(0), -9);
    due("8 at 0", rowOf(0, 3, 6, 9).common(0), 0);
    due("8 behind the starts", rowOf(1, 0, 1, 4).common(0), 1);
    due("8 in the middle", rowOf(3, 1, 1, 2, 4, 1).common(0), 1);
    // 2, 1, 0: with 1 and 0 none, and so on for ever.
    due("8 0 and 1", rowOf(0, 2, 2, 1).common(0), -9);
    due("8 two and 0", rowOf(0, 2, 4, 2).common(0), 0);
    // 2, 2, 0, -2.
    due("8 the least", rowOf(0, 1, 2, 2).common(0), 0);
    due("8 two terms alone", rowOf(1, 1, 8, 6).common(0), 0);
    due("8 below 0", rowOf(0, 0, 1, 3).common(0), -9);
    ExchangeRows x = rowOf(1, 0, 9, 4);
    due("8 two terms", x.common(0), -9);
    x.start(0, 1, 6);
    due("8 two others", x.common(0), 0);
    due("8 no row", x.common(1), -1);
    due("8 no row ahead", x.common(-1), -1);
    refused("8 refusals", x, 200000);
  }

  static void promise9() {
    ExchangeRows x = rowOf(0, 3);
    due("9 2", x.divided(0, 2), 2);
    due("9 5", x.divided(0, 5), 3);
    due("9 never", x.divided(0, 7), -9);
    due("9 4181", x.divided(0, 4181), 10);
    due("9 9999", x.divided(0, 9999), -9);
    due("9 10000", x.divided(0, 10000), -6);
    due("9 1", x.divided(0, 1), -4);
    due("9 far below", x.divided(0, LEAST), -4);
    due("9 no row", x.divided(1, 1), -1);
    due("9 no row ahead", x.divided(-1, 3), -1);
    refused("9 refusals", x, 200201);
    due("9 at 0", rowOf(0, 3, 6, 9).divided(0, 3), 0);
    due("9 0 is a multiple", rowOf(0, 2, 4, 2).divided(0, 9999), 2);
    due("9 below 0", rowOf(0, 9, 9, 1).divided(0, 80), 2);
    due("9 below 0, no 0", rowOf(0, 2, 9, 7).divided(0, 37), 23);
  }

  static void promise10() {
    ExchangeRows x = rowOf(0, 3);
    x.row(1, 1);
    x.row(0, 3);
    due("10 alike", x.unlike(0, 2), -9);
    due("10 by another law", x.unlike(0, 1), -9);
    due("10 one twice", x.unlike(1, 1), -9);
    x.start(2, 1, 2);
    due("10 a start", x.unlike(0, 2), 1);
    x.start(2, 0, 2);
    due("10 the first", x.unlike(2, 0), 0);
    due("10 no row", x.unlike(0, 3), -1);
    due("10 no row, the other", x.unlike(3, 0), -1);
    due("10 no row ahead", x.unlike(-1, -1), -1);
    refused("10 refusals", x, 300000);
    ExchangeRows y = rowOf(1, 0, 4, 6);
    addRow(y, 1, 0, 4, 6);
    due("10 of one length", y.unlike(0, 1), -9);
    ExchangeRows z = rowOf(1, 1, 1, 3);
    addRow(z, 0, 3, 1, 3);
    due("10 the third is 10 and 8", z.unlike(0, 1), 2);
    ExchangeRows v = rowOf(0, 0, 1, 1);
    addRow(v, 1, 2, 1, 1);
    due("10 unlike behind the starts", v.unlike(1, 0), 2);
    // 9, 4 and no more; 9, 4, -9 ..
    ExchangeRows w = rowOf(1, 0, 9, 4);
    addRow(w, 0, 0, 9, 4);
    due("10 only one has a term", w.unlike(0, 1), 2);
    due("10 only the other has a term", w.unlike(1, 0), 2);
    ExchangeRows u = rowOf(1, 0, 9, 1);
    addRow(u, 0, 9, 9, 1);
    due("10 no third and a third of 0", u.unlike(0, 1), 2);
  }

  static void promise11() {
    ExchangeRows x = seedOf("b013;s05;m0;");
    due("11 below", x.seed(1), -4);
    due("11 above", x.seed(5), -6);
    due("11 far", x.seed(LEAST), -4);
    due("11 refused leaves what can be undone", x.count(3), 1);
    due("11 there were 2", x.seed(4), 2);
    for (int i = 0; i < 4; i++) {
      fraction("11 value", x, i, 1, 1);
      for (int j = 0; j < 4; j++) {
        due("11 entry", x.entry(i, j), 0);
        due("11 power", x.power(i, j), i == j ? -1 : 0);
      }
    }
    due("11 nothing can be undone", x.undo(), -3);
    due("11 there were 4", x.seed(3), 4);
    due("11 no fourth letter", x.value(3, 0), -1);
    due("11 there were 3", x.seed(2), 3);
    due("11 start", x.begins(0, 2), 1);
    refused("11 refusals", x, 101201);
  }

  static void promise12() {
    ExchangeRows x = new ExchangeRows();
    due("12 was 0", x.table(0, 1, 9), 0);
    due("12 was -9", x.table(1, 0, -9), -9);
    due("12 the other way", x.entry(0, 1), 9);
    due("12 no letter", x.table(2, 0, 10), FAR + 1);
    due("12 no letter, the other", x.table(0, 2, -10), FAR + 1);
    due("12 below no letter", x.table(-1, 0, 0), FAR + 1);
    due("12 one twice", x.table(1, 1, 0), FAR + 1);
    due("12 below", x.table(0, 1, -10), FAR + 4);
    due("12 far below", x.table(0, 1, LEAST), FAR + 4);
    due("12 above", x.table(0, 1, 10), FAR + 6);
    due("12 far above", x.table(0, 1, MOST), FAR + 6);
    refused("12 refusals", x, 400202);
    due("12 nothing changes", x.entry(0, 1), 9);
    ExchangeRows y = seedOf("n3;s02;s13;b011;b121;m1;");
    due("12 entry as exchanges made it", y.entry(0, 2), 1);
    due("12 refused leaves values", y.table(0, 0, 1), FAR + 1);
    fraction("12 value ahead", y, 1, 1, 1);
    due("12 can be undone", y.count(3), 1);
    due("12 what it was", y.table(0, 1, -2), -1);
    due("12 told", y.entry(1, 0), 2);
    due("12 the rest of the table stays", y.entry(0, 2), 1);
    due("12 the rest of the table stays, too", y.entry(1, 2), -1);
    fraction("12 begun", y, 0, 2, 1);
    fraction("12 begun", y, 1, 3, 1);
    due("12 degrees begun", y.power(1, 1), -1);
    due("12 degrees begun, too", y.power(1, 0), 0);
    due("12 nothing can be undone", y.undo(), -3);
  }

  static void promise13() {
    ExchangeRows x = seedOf("b011;m0;m1;");
    fraction("13 ahead", x, 1, 3, 1);
    due("13 below", x.begins(0, 0), -4);
    due("13 far below", x.begins(0, LEAST), -4);
    due("13 above", x.begins(0, 10), -6);
    due("13 no letter", x.begins(2, 0), -1);
    due("13 no letter ahead", x.begins(-1, 10), -1);
    refused("13 refusals", x, 200201);
    fraction("13 nothing changes", x, 1, 3, 1);
    due("13 can be undone", x.count(3), 1);
    due("13 was 1", x.begins(0, 9), 1);
    fraction("13 begun", x, 0, 9, 1);
    fraction("13 begun, too", x, 1, 1, 1);
    due("13 degrees", x.power(1, 1), -1);
    due("13 entry stays", x.entry(0, 1), 1);
    due("13 nothing can be undone", x.undo(), -3);
    due("13 was 9", x.begins(0, 1), 9);
  }

  static void promise14() {
    ExchangeRows x = seedOf("n3;b012;b02-3;");
    due("14 b(0, 1)", x.entry(0, 1), 2);
    due("14 b(1, 0)", x.entry(1, 0), -2);
    due("14 b(0, 2)", x.entry(0, 2), -3);
    due("14 b(1, 1)", x.entry(1, 1), 0);
    // b(1, 0) below 0 and b(0, 2) below 0: both of a sign.
    x.exchange(0);
    due("14 b(1, 2) made", x.entry(1, 2), -6);
    due("14 b(2, 1) made", x.entry(2, 1), 6);
    due("14 b(0, 1) turned", x.entry(0, 1), -2);
    due("14 no letter", x.entry(3, 0), FAR + 1);
    due("14 no letter, the other", x.entry(0, 3), FAR + 1);
    due("14 no letter ahead", x.entry(-1, 0), FAR + 1);
    refused("14 refusals", x, 300000);
    ExchangeRows y = seedOf("n3;b012;b023;m0;");
    due("14 of two signs nothing is made", y.entry(1, 2), 0);
  }

  static void promise15() {
    ExchangeRows x = seedOf("b011;s02;s12;m0;");
    fraction("15 a fraction", x, 0, 3, 2);
    x.exchange(1);
    fraction("15 of fractions", x, 1, 5, 4);
    due("15 no letter", x.value(2, 2), -1);
    due("15 no letter ahead", x.value(-1, 0), -1);
    due("15 no part", x.value(0, 2), -2);
    due("15 no part below", x.value(0, -1), -2);
    refused("15 refusals", x, 220000);
  }

  static void promise16() {
    ExchangeRows x = seedOf("b012;m0;m1;m0;");
    due("16 d(0, 0)", x.power(0, 0), 3);
    due("16 d(0, 1)", x.power(0, 1), 2);
    due("16 d(1, 0)", x.power(1, 0), 2);
    due("16 d(1, 1)", x.power(1, 1), 1);
    due("16 no letter", x.power(2, 0), FAR + 1);
    due("16 no letter, the other", x.power(0, 2), FAR + 1);
    due("16 no letter ahead", x.power(0, -1), FAR + 1);
    refused("16 refusals", x, 300000);
    // Above 0 letter 1, below 0 letters 2 (twice): the greater of the two sums for each c.
    ExchangeRows y = seedOf("n3;b101;b20-2;m1;m2;m0;");
    due("16 the greater sum", y.power(0, 0), 1);
    due("16 the greater sum, of 1", y.power(0, 1), 1);
    due("16 the greater sum, of 2", y.power(0, 2), 2);
  }

  static void promise17() {
    ExchangeRows x = seedOf("n3;b01-2;b021;s04;s13;s25;");
    // For 0: b(1, 0) is 2, b(2, 0) is -1: (9 + 5) / 4.
    due("17 above the line", x.exchange(0), 7);
    fraction("17 least terms", x, 0, 7, 2);
    due("17 entry", x.entry(0, 1), 2);
    due("17 entry made", x.entry(1, 2), 2);
    due("17 can be undone", x.count(3), 2);
    due("17 back", x.exchange(0), 4);
    due("17 entry back", x.entry(1, 2), 0);
    due("17 no letter", x.exchange(3), -1);
    due("17 no letter ahead", x.exchange(-1), -1);
    refused("17 refusals", x, 200000);
    ExchangeRows y = seedOf("b019;m0;m1;");
    due("17 can't be", y.exchange(0), -6);
    fraction("17 nothing changes", y, 0, 2, 1);
    due("17 no entry changes", y.entry(0, 1), 9);
    due("17 what can be undone stays", y.count(3), 1);
    refused("17 refusals of what can't be", y, 1);
    // 9 to the 9th is 387420489, times 2 is below, times 3 above 1000000000.
    due("17 up to 774840978", walk(new ExchangeRows(), "n3;b019;b021;s19;s22;m0;"), 6);
    due("17 down is great", walk(new ExchangeRows(), "n3;b019;b021;s19;s23;m0;"), -2021);
    due("17 up is great", walk(new ExchangeRows(), "n3;b109;b201;s19;s23;m0;"), -2021);
    // 5 to the 9th times 2 to the 9th is 1000000000, plus 1 is great; of 4 it is 512000000.
    due("17 the sum alone is great", walk(new ExchangeRows(), "n3;b109;b209;s15;s22;m0;"), -2021);
    due("17 the sum is not great", walk(new ExchangeRows(), "n3;b109;b209;s14;s22;m0;"), 6);
    // 9 to the 9th, times 9 is great, though times 2/9 behind it it would not be; times 2/9 first it never is.
    due("17 up is great on the way", walk(new ExchangeRows(), "n4;b039;b131;b23-1;s09;s19;s29;m2;m3;"), -2034);
    due("17 up is not great, by numbers", walk(new ExchangeRows(), "n4;b03-1;b139;b231;s09;s19;s29;m0;m3;"), 9);
    due("17 down is great on the way", walk(new ExchangeRows(), "n4;b03-9;b13-1;b231;s09;s19;s29;m2;m3;"), -2035);
    due("17 down is not great, by numbers", walk(new ExchangeRows(), "n4;b031;b13-9;b23-1;s09;s19;s29;m0;m3;"), 9);
    // 5 to the 9th times 2 to the 9th is 1000000000, which isn't great; then a half of it; below the line likewise, then 2 of it.
    due("17 up to 1000000000 on the way", walk(new ExchangeRows(), "n4;b039;b139;b23-1;s05;s12;s24;m2;m3;"), 9);
    due("17 below the line, too", walk(new ExchangeRows(), "n4;b03-9;b13-9;b231;b201;s05;s14;s22;m0;m1;m3;"), 11);
    // b(1, 2): 3 times 3 is 9; with 1 more, 10.
    due("17 an entry of 9", walk(new ExchangeRows(), "n3;b103;b023;m0;"), 4);
    due("17 an entry of 10", walk(new ExchangeRows(), "n3;b103;b023;b121;m0;"), -2018);
    due("17 an entry of -9", walk(new ExchangeRows(), "n3;b013;b203;m0;"), 4);
    due("17 an entry of -10", walk(new ExchangeRows(), "n3;b013;b203;b12-1;m0;"), -2019);
    ExchangeRows z = seedOf("s05;s15;m0;");
    fraction("17 two by its value", z, 0, 2, 5);
  }

  static void promise18() {
    ExchangeRows x = new ExchangeRows();
    due("18 none", x.walk(), -1000);
    due("18 statements", walk(x, "n4;b011;b23-2;s13;m0;w02;"), 6);
    due("18 letters are no more", x.count(2), 0);
    due("18 R", x.count(1), 4);
    fraction("18 m0, then at place 2", x, 2, 4, 1);
    fraction("18 s1", x, 1, 3, 1);
    due("18 w: rows of the table", x.entry(0, 3), -2);
    due("18 w: columns of the table", x.entry(1, 2), 1);
    due("18 w: degrees of the row and the column", x.power(2, 2), 1);
    due("18 w: degrees both ways", x.power(0, 0), -1);
    due("18 w: no degree between", x.power(2, 0), 0);
    due("18 w: starts", walk(x, "s33;"), 1);
    due("18 begun by s", x.value(2, 0), 1);
    due("18 refusals are none", x.count(12) + x.count(14) + x.count(16), 0);
    String[] bad = {"x", "n", "n2", "nx;", "n22;", "n2;;", ";", "b01", "b012", "b01--1;", "b01-;", "b01-1", "b012-", "b0-1;", "s1;", "s123;",
      "m;", "m01;", "w0;", "w012;", "n2;m0;q", "N2;", "n2; m0;", "m0;m", "m-1;", "s0-1;", "b01-12;", "n/;", "n:;", "m0;m0;m0;m0"};
    int[] place = {0, 1, 2, 1, 2, 3, 0, 3, 4, 4, 4, 5, 4, 2, 2, 3, 1, 2, 2, 3, 6, 0, 3, 4, 1, 2, 5, 1, 1, 11};
    for (int i = 0; i < bad.length; i++) due("18 kind 1 of " + bad[i], walk(x, bad[i]), -1000 - place[i]);
    due("18 kind 1 ahead of kind 2", walk(x, "n9;m"), -1004);
    String[] cant = {"n1;", "n5;", "n0;", "s00;", "s40;", "s41;", "m4;", "b001;", "b041;", "b401;", "w00;", "w04;", "w40;", "n2;m2;", "n2;n3;m2;m3;",
      "m0;m0;s10;", "n2;b019;m0;m1;m0;m1;"};
    int[] behind = {0, 0, 0, 0, 0, 0, 0, 0, 0, 0, 0, 0, 0, 3, 9, 6, 14};
    for (int i = 0; i < cant.length; i++) due("18 kind 2 of " + cant[i], walk(x, cant[i]), -2000 - behind[i]);
    due("18 a fault leaves no letters", x.count(2), 0);
    due("18 a fault changes nothing", x.count(1), 4);
    due("18 a fault can't be undone", x.count(3), 2);
    refused("18 a fault isn't counted", x, 0);
    due("18 minus 0", walk(x, "b01-0;"), 1);
    due("18 minus 0 is 0", x.entry(0, 1), 0);
    due("18 9 and -9", walk(x, "b019;b23-9;s09;"), 3);
    due("18 -9", x.entry(2, 3), -9);
    due("18 a START of 9", x.value(0, 0), 9);
    due("18 n begins", walk(x, "m1;n2;"), 2);
    fraction("18 begun", x, 1, 1, 1);
    due("18 n: starts 1", x.begins(0, 1), 1);
    ExchangeRows y = seedOf("b011;s02;m0;");
    due("18 w once", walk(y, "w01;"), 1);
    fraction("18 values", y, 1, 1, 1);
    due("18 w: table", y.entry(0, 1), 1);
    due("18 w: start of 1", y.begins(1, 1), 2);
    ExchangeRows v = seedOf("n4;b011;b023;b13-2;b122;s21;s12;s24;s36;m2;");
    // For 2: b(0, 2) is 3, b(1, 2) is 2: (1 times 2 times 2 plus 1) / 4.
    fraction("18 m2", v, 2, 5, 4);
    due("18 w21", walk(v, "w21;"), 1);
    fraction("18 w21: the value of 1", v, 1, 5, 4);
    fraction("18 w21: the value of 2", v, 2, 2, 1);
    fraction("18 w21: the value of 3", v, 3, 6, 1);
    int[][] table = {{0, -3, 1, 0}, {3, 0, 2, 0}, {-1, -2, 0, -2}, {0, 0, 2, 0}};
    int[][] degrees = {{-1, 0, 0, 0}, {0, 1, 0, 0}, {0, 0, -1, 0}, {0, 0, 0, -1}};
    for (int i = 0; i < 4; i++) for (int j = 0; j < 4; j++) {
      due("18 w21: entry " + i + j, v.entry(i, j), table[i][j]);
      due("18 w21: degree " + i + j, v.power(i, j), degrees[i][j]);
    }
    due("18 w21: start", v.begins(1, 4), 4);
    due("18 w21: start", v.begins(2, 2), 2);
    due("18 w21: start", v.begins(3, 6), 6);
    ExchangeRows z = new ExchangeRows();
    due("18 72 letters", walk(z, "m0;".repeat(24)), 24);
    due("18 an unfinished one of 72", walk(z, "m0;".repeat(22) + "b01-1;".substring(0, 5) + "b"), -1071);
    for (int i = 0; i < 73; i++) z.letter('0');
    due("18 72 of no statement", z.walk(), -1000);
  }

  static void promise19() {
    ExchangeRows x = new ExchangeRows();
    due("19 below", x.letter(-1), -4);
    due("19 above", x.letter(256), -6);
    due("19 far", x.letter(LEAST), -4);
    due("19 0", x.letter(0), 1);
    due("19 255", x.letter(255), 2);
    for (int i = 3; i <= 72; i++) due("19 more", x.letter(';'), i);
    due("19 no room", x.letter(';'), -6);
    due("19 no room, below", x.letter(-1), -4);
    due("19 72", x.count(2), 72);
    refused("19 refusals", x, 302);
    x.walk();
    due("19 room again", x.letter('m'), 1);
  }

  static void promise20() {
    ExchangeRows x = seedOf("b011;s04;s16;m0;m1;");
    // (1 + 6) / 4; (1 + 7/4) / 6 is 11 / 24.
    fraction("20 a fraction", x, 1, 11, 24);
    due("20 by both starts", x.whole(1), 1);
    due("20 by one start", x.whole(0), 1);
    due("20 no letter", x.whole(2), -1);
    due("20 no letter ahead", x.whole(-1), -1);
    refused("20 refusals", x, 200000);
    due("20 begun", new ExchangeRows().whole(0), 1);
    ExchangeRows y = seedOf("b012;s02;s12;m0;m1;m0;");
    due("20 powers of 2", y.whole(0), 1);
  }

  static void promise21() {
    ExchangeRows x = seedOf("n4;b011;b122;");
    due("21 sinks", x.sinks(0), 8 + 4);
    due("21 sources", x.sinks(1), 8 + 1);
    due("21 what", x.sinks(2), -2);
    due("21 what below", x.sinks(-1), -2);
    refused("21 refusals", x, 20000);
    due("21 all", new ExchangeRows().sinks(0), 3);
  }

  static void promise22() {
    due("22 nothing between", new ExchangeRows().ring(0, 1), 4);
    due("22 one between", seedOf("b011;").ring(1, 0), 5);
    due("22 never", seedOf("b012;").ring(0, 1), -9);
    // 1, 1, 2, 5, 13 .. to and fro: ten steps to 1, ten beyond.
    String there = "b012;" + "m0;m1;".repeat(5);
    due("22 20 is found", seedOf(there).ring(1, 0), 20);
    due("22 22 is not", seedOf(there + "m0;").ring(0, 1), -9);
    due("22 can't be", seedOf("b019;").ring(0, 1), -9);
    // (1 + 3) / 2 is 2 again.
    due("22 at once", seedOf("b011;s02;s13;").ring(0, 1), 1);
    // 2, 3: 2, 1: 1, 1: 1, 2: 3, 2.
    due("22 in another order", seedOf("b011;s02;s13;").ring(1, 0), 4);
    due("22 with a third letter", seedOf("n3;b011;b122;s23;").ring(0, 1), 5);
    ExchangeRows x = seedOf("n3;b011;m0;");
    // 2, 1: 2, 3: 2, 3: 2, 1.
    due("22 from an exchanged one", x.ring(1, 0), 3);
    due("22 nothing changes", x.value(0, 0), 2);
    due("22 and none to undo more", x.count(3), 1);
    due("22 one twice", x.ring(1, 1), -1);
    due("22 no letter", x.ring(3, 0), -1);
    due("22 no letter, the other", x.ring(0, -1), -1);
    refused("22 refusals", x, 300000);
  }

  static void promise23() {
    ExchangeRows x = seedOf("b011;");
    int[] many = {1, 3, 5, 7, 9};
    int[] values = {1, 2, 3, 3, 3};
    int[] greatest = {0, 1, 1, 1, 1};
    for (int n = 0; n < 5; n++) {
      due("23 seeds", x.reached(n, 0), many[n]);
      due("23 values", x.reached(n, 1), values[n]);
      due("23 the greatest d", x.reached(n, 2), greatest[n]);
      due("23 not whole", x.reached(n, 3), 0);
    }
    due("23 below", x.reached(-1, 9), -4);
    due("23 above", x.reached(5, 9), -6);
    due("23 what", x.reached(4, 4), -2);
    due("23 what below", x.reached(4, -1), -2);
    refused("23 refusals", x, 20101);
    due("23 nothing changes", x.value(0, 0), 1);
    // Four letters by themselves: each is 1 or 2, so 16; all four EXCHANGED by four.
    ExchangeRows y = seedOf("n4;");
    due("23 four", y.reached(4, 0), 16);
    due("23 three of four", y.reached(3, 0), 15);
    due("23 two of four", y.reached(2, 0), 11);
    due("23 their values", y.reached(4, 1), 2);
    // No two ways but there and back meet.
    ExchangeRows z = seedOf("n4;b011;b022;b031;b122;b131;b231;s02;s13;");
    due("23 nothing meets in two", z.reached(2, 0), 1 + 4 + 12);
    due("23 nothing meets in four", seedOf("n4;b01-1;b022;b03-1;b12-1;b131;b231;").reached(4, 0), 1 + 4 + 12 + 36 + 108);
    ExchangeRows v = seedOf("b012;m0;m1;");
    due("23 the greatest d from there", v.reached(1, 2), 3);
    due("23 the greatest d there", v.reached(0, 2), 2);
    due("23 by fractions whole", seedOf("n3;b011;b122;s04;s16;s29;").reached(4, 3), 0);
  }

  static void promise24() {
    ExchangeRows x = seedOf("b011;");
    due("24 by none", x.fewest(1, 1, -1), 0);
    due("24 by none no letter", x.fewest(1, 1, 0), -9);
    due("24 by one", x.fewest(2, 1, -1), 1);
    due("24 the first of two", x.fewest(2, 1, 0), 0);
    due("24 by two", x.fewest(3, 1, -1), 2);
    due("24 first", x.fewest(3, 1, 0), 0);
    due("24 second", x.fewest(3, 1, 1), 1);
    due("24 no third", x.fewest(3, 1, 2), -9);
    due("24 never", x.fewest(4, 1, -1), -9);
    due("24 never, so no letter", x.fewest(4, 1, 0), -9);
    due("24 a half", x.fewest(1, 2, -1), -9);
    due("24 0", x.fewest(0, 1, -1), -9);
    due("24 the same VALUE", x.fewest(6, 2, -1), 2);
    due("24 far", x.fewest(MOST, MOST, MOST), -9);
    due("24 above below", x.fewest(-1, 1, -1), -4);
    due("24 below below", x.fewest(1, 0, -1), -4);
    due("24 i below", x.fewest(1, 1, -2), -4);
    refused("24 refusals", x, 300);
    // 1, 1: 2, 1: 2, 5: 13, 5: 13, 34: four ways' letters by turns.
    ExchangeRows y = seedOf("b012;");
    due("24 by four", y.fewest(34, 1, -1), 4);
    for (int i = 0; i < 4; i++) due("24 its letters", y.fewest(34, 1, i), i % 2);
    due("24 five are too many", y.fewest(89, 1, -1), -9);
    // 3/2 and 5/4 of 2, 2.
    ExchangeRows z = seedOf("b011;s02;s12;m1;");
    due("24 a fraction", z.fewest(5, 4, -1), 1);
    due("24 its letter", z.fewest(5, 4, 0), 0);
    // To 2 each letter leads; to 3 letters 1 and 2, either first.
    ExchangeRows w = seedOf("n3;b121;");
    due("24 the least letter", w.fewest(2, 1, 0), 0);
    due("24 3 by two", w.fewest(3, 1, -1), 2);
    due("24 the first way", w.fewest(3, 1, 0), 1);
    due("24 its end", w.fewest(3, 1, 1), 2);
    due("24 nothing changes", x.value(0, 0), 1);
  }

  static void promise25() {
    // By 0 the letters are 1, 1, 0, 1, 1, 0, 0, 1; one beside one: five exchanges come round.
    ExchangeRows x = seedOf("b012;");
    due("25 once", x.lots(1, 0, 0), 1);
    due("25 d of one", x.lots(1, 0, 1), 1);
    due("25 there and back", x.lots(2, 0, 1), 0);
    due("25 0 then 1", x.lots(4, 0, 1), 2);
    due("25 all eight", x.lots(8, 0, 0), 8);
    due("25 d of eight", x.lots(8, 0, 1), 2);
    // 2, 0, 0, 2, 1 of three; by -1 1, 2, 2, 0.
    ExchangeRows y = seedOf("n3;b012;b122;b202;");
    due("25 three letters", y.lots(3, -1, 1), 1);
    due("25 three letters, four lots", y.lots(4, -1, 1), 2);
    due("25 three letters, six lots", y.lots(6, -1, 0), 6);
    ExchangeRows z = seedOf("b019;");
    // 0, 0, 0, 0, 1, 1, 1, 1: all can be.
    due("25 12345", z.lots(8, 12345, 0), 8);
    // 1, 1, 1, 0, 1, 1, 1, 1: 1 thrice is 2, then 0 is 513, then 1 can't be.
    due("25 some can't be", z.lots(8, 1, 0), 4);
    due("25 without them", z.lots(8, 1, 1), 9);
    due("25 the least", z.lots(1, LEAST, 0), 1);
    due("25 nothing changes", z.value(1, 0), 1);
    due("25 below", z.lots(0, 0, 5), -4);
    due("25 above", z.lots(31, 0, 5), -6);
    due("25 30", new ExchangeRows().lots(30, 5, 0), 30);
    due("25 what", z.lots(1, 0, 2), -2);
    due("25 what below", z.lots(1, 0, -1), -2);
    refused("25 refusals", z, 20101);
  }

  static void promise26() {
    ExchangeRows x = new ExchangeRows();
    due("26 no list", x.laws(3, -1), -1);
    due("26 no list ahead", x.laws(-1, 1), -1);
    due("26 below", x.laws(0, -1), -4);
    due("26 above", x.laws(0, 10), -6);
    due("26 missing", x.laws(0, 9), -11);
    x.list(0, 2);
    due("26 all", x.laws(0, 0), 127);
    x.list(0, 0);
    due("26 all of none", x.laws(0, 0), 127);
    x.list(0, 3);
    due("26 0 by 0 is not so, but a line is", x.laws(0, 5), 127 - 2);
    fill(x, 0, 1, 1, 2, 5);
    due("26 line and three by 3, four and more by all", x.laws(0, 3), 1 + 4 + 8 + 16 + 32 + 64);
    due("26 square by 1", x.laws(0, 1), 2 + 8 + 16 + 32 + 64);
    fill(x, 0, -1, 2, -4, 8);
    due("26 below 0", x.laws(0, 0), 2 + 4 + 8 + 16 + 32 + 64);
    fill(x, 0, 2, 3, 4);
    due("26 a rest", x.laws(0, 0), 4 + 8 + 16 + 32 + 64);
    int[][] made = {{2, 3, 7}, {1, 2, 8}, {1, 2, 3, 10}, {1, 2, 3, 4, 26}, {1, 2, 3, 4, 5, 46, 99, 362, 3868}, {1, 2, 3, 4, 5, 6, 58},
      {1, 2, 3, 4, 5, 6, 7, 8, 110, 234}};
    int[] by = {3, 4, 4, 2, 3, 2, 2};
    for (int law = 0; law < 7; law++) {
      fill(x, 1, made[law]);
      due("26 made by " + law, x.laws(1, by[law]) >> law & 1, 1);
      due("26 not with another figure", x.laws(1, by[law] + 1) >> law & 1, 0);
      x.put(1, made[law].length - 1, made[law][made[law].length - 1] + 1);
      due("26 not with another end", x.laws(1, by[law]) >> law & 1, 0);
    }
    fill(x, 1, 10000, -10000);
    due("26 in range", x.laws(1, 0), 127);
    x.put(1, 0, 10001);
    due("26 above the range", x.laws(1, 0), -3);
    fill(x, 1, 0, -10001);
    due("26 below the range", x.laws(1, 0), -3);
    fill(x, 1, LEAST);
    due("26 far below the range", x.laws(1, 0), -3);
    refused("26 refusals", x, 203101);
  }

  static void promise27() {
    ExchangeRows x = new ExchangeRows();
    due("27 no list", x.figures(3, 9), -1);
    due("27 law", x.figures(0, 7), -2);
    due("27 law below", x.figures(0, -1), -2);
    due("27 missing", x.figures(0, 6), -11);
    x.list(0, 8);
    due("27 all of an eight", x.figures(0, 6), 1023);
    fill(x, 0, 1, 1, 2, 5, 13);
    due("27 line", x.figures(0, 0), 8);
    due("27 square", x.figures(0, 1), 2);
    due("27 three", x.figures(0, 2), 8);
    fill(x, 0, 1, 1, 10);
    due("27 9", x.figures(0, 1), 512);
    fill(x, 0, 1, 1, 11);
    due("27 not 10", x.figures(0, 1), 0);
    // 0 F's: any of them.
    fill(x, 0, 1, 0, -1);
    due("27 any", x.figures(0, 0), 1023);
    x.put(0, 1, 10001);
    due("27 out of range", x.figures(0, 0), -3);
    refused("27 refusals", x, 121000);
  }

  static void promise28() {
    ExchangeRows x = rowOf(1, 1, 1, 3);
    due("28 missing", x.judge(0, 0), -11);
    due("28 no list", x.judge(3, 0), -1);
    due("28 no row, missing", x.judge(0, 1), -1);
    fill(x, 0, 1, 3, 10);
    due("28 as it is", x.judge(0, 0), -9);
    x.put(0, 2, 9);
    due("28 otherwise", x.judge(0, 0), 2);
    x.put(0, 0, 2);
    due("28 the first", x.judge(0, 0), 0);
    fill(x, 0, 1, 3, 10, 34);
    due("28 not there", x.judge(0, 0), 3);
    fill(x, 0, 1, 3, 10, 0);
    due("28 not there and 0", x.judge(0, 0), 3);
    fill(x, 0, 1, 3);
    due("28 fewer", x.judge(0, 0), -9);
    x.list(0, 0);
    due("28 none", x.judge(0, 0), -9);
    refused("28 refusals", x, 200000);
  }

  static void promise29() {
    ExchangeRows x = new ExchangeRows();
    due("29 no list", x.list(3, 41), -1);
    due("29 no list ahead", x.list(-1, 1), -1);
    due("29 above", x.list(0, 41), -6);
    due("29 below", x.list(0, -1), -14);
    due("29 far below", x.list(0, LEAST), -14);
    due("29 still missing", x.look(0, 0), FARTHER + 11);
    due("29 40", x.list(0, 40), 1);
    due("29 put", x.put(0, 39, 7), 1);
    due("29 there", x.look(0, 39), 7);
    due("29 no 40", x.look(0, 40), FARTHER + 13);
    due("29 anew", x.list(0, 40), 1);
    due("29 all 0", x.look(0, 39), 0);
    due("29 shorter", x.list(0, 1), 1);
    due("29 no place 1", x.look(0, 1), FARTHER + 13);
    due("29 of none", x.list(2, 0), 1);
    due("29 no place 0", x.look(2, 0), FARTHER + 13);
    refused("29 refusals", x, 200001);
  }

  static void promise30() {
    ExchangeRows x = new ExchangeRows();
    due("30 no list", x.put(3, 0, 0), -1);
    due("30 missing", x.put(0, -1, 0), -11);
    x.list(0, 2);
    due("30 no place", x.put(0, 2, 0), -13);
    due("30 no place ahead", x.put(0, -1, 0), -13);
    due("30 the least", x.put(0, 1, LEAST), 1);
    due("30 is told", x.look(0, 1), LEAST);
    due("30 another stays", x.look(0, 0), 0);
    x.list(1, 2);
    due("30 another list stays", x.look(1, 1), 0);
    refused("30 refusals", x, 100000);
  }

  static void promise31() {
    ExchangeRows x = new ExchangeRows();
    due("31 no list", x.look(3, 0), FARTHER + 1);
    due("31 no list ahead", x.look(-1, 0), FARTHER + 1);
    due("31 missing", x.look(2, 0), FARTHER + 11);
    x.list(2, 3);
    x.put(2, 0, MOST);
    due("31 the greatest", x.look(2, 0), MOST);
    due("31 no place", x.look(2, 3), FARTHER + 13);
    due("31 no place ahead", x.look(2, -1), FARTHER + 13);
    refused("31 refusals", x, 200000);
  }

  static void promise32() {
    ExchangeRows x = rowOf(1, 1, 1, 3);
    due("32 no list", x.lays(3, 0, 0), -1);
    due("32 no row", x.lays(0, 0, 1), -1);
    due("32 missing", x.lays(0, 0, 0), -11);
    x.list(0, 5);
    due("32 no place", x.lays(0, 5, 0), -13);
    due("32 no place ahead", x.lays(0, -1, 0), -13);
    due("32 as many as there are", x.lays(0, 1, 0), 3);
    int[] want = {0, 1, 3, 10, 0};
    for (int i = 0; i < 5; i++) due("32 laid", x.look(0, i), want[i]);
    due("32 as many as have a place", x.lays(0, 4, 0), 1);
    due("32 laid at the end", x.look(0, 4), 1);
    x.list(1, 0);
    due("32 none has a place", x.lays(1, 0, 0), -13);
    refused("32 refusals", x, 200000);
  }

  static void promise33() {
    ExchangeRows x = new ExchangeRows();
    due("33 none", x.undo(), -3);
    x.table(0, 1, 2);
    for (int i = 0; i < 5; i++) x.exchange(i % 2);
    due("33 a walk, too", walk(x, "n3;b011;m2;w02;"), 4);
    for (int i = 0; i < 4; i++) x.exchange(2);
    due("33 no more than 8", x.count(3), 8);
    for (int i = 7; i > 3; i--) due("33 exchanges", x.undo(), i);
    due("33 the walk is still there", x.count(1), 3);
    due("33 w", x.entry(2, 1), 1);
    due("33 the walk", x.undo(), 3);
    due("33 as ahead of the walk", x.count(1), 2);
    fraction("33 a value", x, 0, 89, 1);
    due("33 a degree", x.power(0, 0), 5);
    due("33 an entry", x.entry(0, 1), -2);
    due("33 more", x.undo(), 2);
    due("33 more", x.undo(), 1);
    due("33 the last", x.undo(), 0);
    fraction("33 older ones no more", x, 0, 2, 1);
    fraction("33 older ones no more, too", x, 1, 5, 1);
    due("33 none more", x.undo(), -3);
    refused("33 refusals", x, 2000);
    x.exchange(0);
    due("33 refused", x.exchange(9), -1);
    x.reached(4, 0);
    x.lots(9, 9, 0);
    x.fewest(2, 1, -1);
    x.ring(0, 1);
    due("33 what was in thought is none", x.undo(), 0);
    fraction("33 as ahead", x, 0, 2, 1);
    x.exchange(0);
    x.image();
    due("33 an image leaves it", x.count(3), 1);
    x.seed(9);
    x.begins(0, 0);
    x.table(0, 0, 0);
    due("33 the refused leave it", x.count(3), 1);
    x.begins(0, 1);
    due("33 begins leaves none", x.count(3), 0);
    x.exchange(0);
    x.table(0, 1, 1);
    due("33 table leaves none", x.count(3), 0);
    x.exchange(0);
    x.on();
    due("33 on leaves none", x.count(3), 0);
    x.exchange(0);
    x.seed(2);
    due("33 seed leaves none", x.count(3), 0);
  }

  static void promise34and35() {
    ExchangeRows x = rowOf(0, 3, 2, 5);
    due("35 none", x.on(), -3);
    walk(x, "n3;b012;s23;m0;");
    x.letter('n');
    x.list(0, 1);
    due("34 taken", x.image(), 1);
    x.row(1, 1);
    x.start(0, 0, 9);
    x.exchange(1);
    x.begins(2, 8);
    x.table(0, 1, 7);
    x.letter('2');
    x.put(0, 0, 44);
    x.count(99);
    due("35 on", x.on(), 1);
    due("35 rows", x.count(0), 1);
    due("35 a row behind is none", x.of(1, 0), -1);
    due("35 a start", x.term(0, 0), 2);
    due("35 a term", x.term(0, 2), 13);
    due("35 law", x.of(0, 0), 0);
    due("35 R", x.count(1), 3);
    fraction("35 a value", x, 0, 2, 1);
    due("35 a degree", x.power(0, 0), 1);
    due("35 an entry", x.entry(0, 1), -2);
    due("35 letters stay", x.count(2), 2);
    due("35 lists stay", x.look(0, 0), 44);
    due("35 none to undo", x.undo(), -3);
    due("35 refusals stay", x.count(13), 2);
    due("35 a start of a letter", x.begins(2, 1), 3);
    x.seed(2);
    due("35 on again", x.on(), 1);
    due("35 as then again", x.count(1), 3);
    due("35 its start again", x.begins(2, 1), 3);
    x.start(0, 0, 4);
    x.row(2, 2);
    due("34 taken again", x.image(), 2);
    x.start(0, 0, 5);
    due("35 on from the newer", x.on(), 2);
    due("35 its start", x.term(0, 0), 4);
    due("35 its row", x.of(1, 0), 2);
    ExchangeRows y = new ExchangeRows();
    due("34 of no rows", y.image(), 0);
    due("35 of no rows", y.on(), 0);
    refused("35 refusals", x, 102000);
  }

  static void promise36() {
    ExchangeRows x = rowOf(0, 3);
    walk(x, "n4;b012;b23-1;m0;");
    x.letter(0);
    due("36 rows", x.count(0), 1);
    due("36 R", x.count(1), 4);
    due("36 letters", x.count(2), 1);
    due("36 undone", x.count(3), 1);
    due("36 entries", x.count(4), 4);
    due("36 degree", x.count(5), 1);
    x.exchange(1);
    due("36 a greater degree", x.count(5), 2);
    x.of(9, 0);
    x.term(9, 0);
    x.kept(9, 0, 0);
    x.sinks(9);
    x.sinks(8);
    x.stays(0);
    x.on();
    x.letter(-1);
    x.letter(256);
    x.letter(256);
    x.look(0, 0);
    x.list(0, -1);
    refused("36 refusals", x, 321102);
    int[] other = {-1, 6, 7, 8, 9, 10, 17, 18, LEAST, MOST};
    for (int what : other) due("36 another what", x.count(what), -9);
    refused("36 another what isn't counted", x, 321102);
    due("36 -5 is never", x.count(15), 0);
  }

  public static void main(String[] args) {
    promise1();
    promise2();
    promise3();
    promise4();
    promise5();
    promise6();
    promise7();
    promise8();
    promise9();
    promise10();
    promise11();
    promise12();
    promise13();
    promise14();
    promise15();
    promise16();
    promise17();
    promise18();
    promise19();
    promise20();
    promise21();
    promise22();
    promise23();
    promise24();
    promise25();
    promise26();
    promise27();
    promise28();
    promise29();
    promise30();
    promise31();
    promise32();
    promise33();
    promise34and35();
    promise36();
    System.out.println("PromiseTest: " + asked + " answers, " + wrong + " wrong");
    if (wrong > 0) System.exit(1);
  }
}
