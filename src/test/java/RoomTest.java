import java.lang.management.ManagementFactory;

/** One room holds all calls of a run: 512 of the dearest calls must make next to nothing behind the constructor. */
public final class RoomTest {
  static final long ROOM_OF_AN_OBJECT = 200000;
  static final long ROOM_OF_ITS_CALLS = 20000;

  static long made() {
    return ((com.sun.management.ThreadMXBean) ManagementFactory.getThreadMXBean()).getCurrentThreadAllocatedBytes();
  }

  static long dearest(ExchangeRows x, int i) {
    switch (i % 8) {
      case 0: return x.reached(4, i % 4);
      case 1: return x.fewest(999, 1000, -1);
      case 2: return x.ring(0, 1);
      case 3: return x.lots(30, i, 1);
      case 4: return x.figures(0, 6) + x.laws(0, 1) + x.stays(0) + x.unlike(0, 1);
      case 5: return x.image() + x.on();
      case 6: return x.exchange(i % 4) + x.undo();
      default: return x.start(0, 0, 1 + i % 9) + x.letter('m') + x.letter('0') + x.letter(';') + x.walk();
    }
  }

  public static void main(String[] args) {
    made();
    long begin = made();
    ExchangeRows x = new ExchangeRows();
    long object = made() - begin;
    x.row(0, 3);
    x.row(3, 1);
    x.list(0, 40);
    x.seed(4);
    int[][] table = {{0, 1, 1}, {0, 2, 1}, {0, 3, -1}, {1, 2, 1}, {1, 3, 1}, {2, 3, 1}};
    for (int[] t : table) x.table(t[0], t[1], t[2]);
    begin = made();
    long sum = 0;
    for (int i = 0; i < 500; i++) sum += dearest(x, i);
    long calls = made() - begin;
    System.out.println("RoomTest: an object " + object + " bytes, its calls " + calls + " (" + sum + ")");
    if (object > ROOM_OF_AN_OBJECT || calls > ROOM_OF_ITS_CALLS) {
      System.out.println("RoomTest: too much is made");
      System.exit(1);
    }
  }
}
