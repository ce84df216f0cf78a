import com.sun.management.ThreadMXBean;
import java.lang.management.ManagementFactory;

/** All calls of a run live in one room: a new object makes little, and its calls make nothing. */
public final class RoomTest {
  private static final ThreadMXBean ROOM = (ThreadMXBean) ManagementFactory.getThreadMXBean();
  private static final int MOST_OF_OBJECT = 8000;
  private static final int MOST_OF_CALLS = 2000;

  private static long sum = 0;

  public static void main(String[] args) {
    for (int k = 0; k < 3; k++) {
      everyCall(new StairRow());
    }
    long begin = ROOM.getCurrentThreadAllocatedBytes();
    StairRow x = new StairRow();
    long made = ROOM.getCurrentThreadAllocatedBytes();
    for (int k = 0; k < 20; k++) {
      everyCall(x);
    }
    long called = ROOM.getCurrentThreadAllocatedBytes();
    System.out.println("bytes: a new object " + (made - begin) + ", calls " + (called - made)
        + " (checked sum " + sum + ")");
    if (made - begin > MOST_OF_OBJECT || called - made > MOST_OF_CALLS) {
      System.exit(1);
    }
  }

  private static void everyCall(StairRow x) {
    for (int h = 0; h < 9; h++) {
      sum += x.house(h % 7) + x.stair(h, h % 2) + x.change(h, 7, 7 - h) + x.of(h, 2);
      for (int f = 0; f < 8; f++) {
        sum += x.name(h, 0, f, (h + f) % 3 > 0) + x.lets(h, f, 12);
      }
      sum += x.door(h, h % 3 == 0) + x.ring(h) + x.beds(h) + x.hold(h, h) + x.as(h, 0);
    }
    for (int c = 0; c < 25; c++) {
      sum += x.off(c) + x.law(c) + x.open(c) + x.worth(c % 8, c) + x.quarrel(c % 8, 1, c);
      for (int f = 0; f < 9; f++) {
        sum += x.letting(f, c) + x.way(f, c, c) + x.noise(f, c, c) + x.step(f, c, 1);
        sum += x.reach(f, c) + x.helps(f, c) + x.needs(f, c) + x.share(c % 8, f, c, 0);
      }
    }
    for (int f = 0; f < 9; f++) {
      sum += x.hours(f) + x.latest(f) + x.best(f) + x.joined(f) + x.count(f) + x.status(f);
    }
    sum += x.swaps() + x.fire() + x.shift() + x.gossip(12) + x.seed(3);
    texts(x);
    sum += x.sheet(0, 16, 40) + x.sheet(1, 16, 40) + x.write(0, 3, 4) + x.copy(0, 0, 1, 1, 9);
    sum += x.load(1) + x.judge(1, 0, 12) + x.image() + x.undo() + x.tear();
  }

  private static void texts(StairRow x) {
    for (int k = 0; k < 12; k++) {
      sum += x.feed('d' << 24 | 'o' << 16 | 'o' << 8 | 'r', 4) + x.feed('1' << 8 | ';', 2);
    }
    sum += x.feed('b' << 16 | 'e' << 8 | 'd', 3) + x.text() + x.wipe();
  }
}
