import java.util.ArrayList;
import java.util.List;

/**
 * Each call that answers a finding changes nothing but status(), and each call that only tells
 * changes nothing at all: of two rows that are alike one is asked it, and then all else is asked
 * of both.
 */
public final class RefusedTest {
  private static final Due DUE = new Due();
  private static final int LEAST = Integer.MIN_VALUE;
  private static final int MOST = Integer.MAX_VALUE;

  private interface Make {
    StairRow row();
  }

  private interface Act {
    int on(StairRow x);
  }

  public static void main(String[] args) {
    Sentences.run(RefusedTest.class, DUE);
  }

  /** Four houses with nothing as at first, and another row that is kept. */
  private static StairRow rich() {
    StairRow x = new StairRow();
    int[] kinds = {6, 2, 5, 0};
    for (int h = 0; h < 4; h++) {
      x.house(kinds[h]);
      x.name(h, 0, (h + 1) % 4, true);
      x.name(h, 0, 6, true);
      x.name(h, 1, 7 - h, true);
      x.change(h, 3, 3 + h);
      x.change(h, 4, 20 + h);
      x.change(h, 6, 1 + h);
    }
    x.stair(0, 1);
    x.stair(2, 0);
    x.change(0, 7, 2);
    x.door(1, true);
    x.door(12, true);
    x.hold(3, 2);
    x.seed(4711);
    x.image();
    x.change(0, 7, 3);
    x.change(1, 0, 4);
    x.stair(3, 1);
    x.door(5, true);
    x.door(12, false);
    x.name(1, 0, 0, true);
    x.hold(3, 1);
    x.hold(8, 0);
    x.seed(815);
    int[] widths = {8, 16, 32};
    for (int s = 0; s < 3; s++) {
      x.sheet(s, widths[s], 4 + s);
      for (int i = 0; i < 4 + s; i++) {
        x.write(s, i, 16 * s + i + 3);
      }
    }
    Due.type(x, "door 2;bed 1 in 0");
    return x;
  }

  /** The same with eight houses. */
  private static StairRow full() {
    StairRow x = rich();
    for (int h = 4; h < 8; h++) {
      x.house(h - 3);
    }
    return x;
  }

  private static StairRow withFullTape() {
    StairRow x = rich();
    while (x.count(4) < 120) {
      x.feed(' ', 1);
    }
    return x;
  }

  private static StairRow withAllDoors() {
    StairRow x = rich();
    for (int d = 0; d < 14; d++) {
      x.door(d, true);
    }
    return x;
  }

  private static StairRow torn() {
    StairRow x = rich();
    x.tear();
    return x;
  }

  /** A row without houses, but with all else. */
  private static StairRow bare() {
    StairRow x = new StairRow();
    x.seed(99);
    x.door(13, true);
    x.sheet(0, 8, 3);
    x.sheet(1, 16, 2);
    x.write(0, 1, 77);
    x.feed('i', 1);
    return x;
  }

  // ---- all that can be asked of a row but status()

  private static List<Integer> asked(StairRow x) {
    List<Integer> all = new ArrayList<>();
    row(x, all);
    sheets(x, all);
    all.add(x.text());
    row(x, all);
    all.add(x.undo());
    row(x, all);
    all.add(x.tear());
    return all;
  }

  private static void row(StairRow x, List<Integer> all) {
    for (int what = 0; what < 7; what++) {
      all.add(x.count(what));
    }
    for (int h = 0; h < x.count(0); h++) {
      for (int what = 0; what < 8; what++) {
        all.add(x.of(h, what));
      }
    }
    for (int d = 0; d < 14; d++) {
      int was = x.door(d, true);
      all.add(was);
      x.door(d, was == 1);
    }
    for (int spot = 0; spot < 10; spot++) {
      all.add(x.as(spot, 0));
    }
  }

  /** The number at each place of each sheet, and which sheets are of as many bits. */
  private static void sheets(StairRow x, List<Integer> all) {
    for (int s = 0; s < 4; s++) {
      for (int t = 0; t < 4; t++) {
        all.add(x.copy(s, 0, t, 0, 0));
      }
      int copied = 1;
      for (int i = 0; i < 41 && copied == 1; i++) {
        copied = x.copy(s, i, s, 0, 1);
        all.add(copied);
        all.add(x.load(s));
        all.add(x.of(0, 2));
        all.add(x.judge(s, 0, 12));
      }
    }
  }

  // ---- the comparisons

  private static void refused(String call, Make make, int finding, Act act) {
    StairRow x = make.row();
    StairRow y = make.row();
    DUE.is(call, act.on(x), finding);
    for (int which = -1; which < 7; which++) {
      int more = which == -1 || which == Due.BEYOND - finding ? 1 : 0;
      DUE.is(call + ", then status(" + which + ")", x.status(which), y.status(which) + more);
    }
    alike(call, x, y);
  }

  private static void telling(String call, Make make, Act act) {
    StairRow x = make.row();
    StairRow y = make.row();
    DUE.is(call + " is no finding", act.on(x) <= Due.BEYOND && act.on(x) >= Due.SIZE ? 1 : 0, 0);
    DUE.is(call + ", then status(-1)", x.status(-1), y.status(-1));
    alike(call, x, y);
  }

  private static void alike(String call, StairRow x, StairRow y) {
    List<Integer> got = asked(x);
    List<Integer> due = asked(y);
    int differ = 0;
    for (int i = 0; i < due.size(); i++) {
      differ += i < got.size() && got.get(i).equals(due.get(i)) ? 0 : 1;
    }
    DUE.is(call + ", then answers that differ", differ, 0);
  }

  private static void beyond(String call, Act act) {
    refused(call, RefusedTest::rich, Due.BEYOND, act);
  }

  private static void none(String call, Act act) {
    refused(call, RefusedTest::rich, Due.NONE, act);
  }

  // ---- calls that answer a finding

  private static final String CHANGES_NOTHING =
      "Terms: one that answers a finding changes nothing but status().";

  @Says(CHANGES_NOTHING)
  private static void housesRefused() {
    beyond("house(7)", x -> x.house(7));
    beyond("house(-1)", x -> x.house(-1));
    refused("house(7), full", RefusedTest::full, Due.BEYOND, x -> x.house(7));
    refused("house(0), full", RefusedTest::full, Due.FULL, x -> x.house(0));
    beyond("of(4, 0)", x -> x.of(4, 0));
    beyond("of(0, 8)", x -> x.of(0, 8));
    for (int what : new int[] {0, 3, 4, 6, 7}) {
      beyond("change(4, " + what + ", 0)", x -> x.change(4, what, 0));
      beyond("change(-1, " + what + ", 0)", x -> x.change(-1, what, 0));
      beyond("change(3, " + what + ", -1)", x -> x.change(3, what, -1));
      beyond("change(3, " + what + ", 24)", x -> x.change(3, what, 24));
    }
    for (int what : new int[] {1, 2, 5, 8, -1}) {
      beyond("change(3, " + what + ", 1)", x -> x.change(3, what, 1));
    }
    for (int way = -1; way < 3; way++) {
      int w = way;
      beyond("stair(4, " + way + ")", x -> x.stair(4, w));
    }
    beyond("stair(0, 0)", x -> x.stair(0, 0));
    beyond("stair(2, 2)", x -> x.stair(2, 2));
    beyond("stair(2, -2)", x -> x.stair(2, -2));
    refused("stair(7, 1)", RefusedTest::full, Due.BEYOND, x -> x.stair(7, 1));
  }

  @Says(CHANGES_NOTHING)
  private static void namesAndDoorsRefused() {
    for (int is = 0; is < 2; is++) {
      boolean in = is == 1;
      for (int what = 0; what < 2; what++) {
        int w = what;
        beyond("name(4, " + what + ", 0)", x -> x.name(4, w, 0, in));
        beyond("name(0, " + what + ", 8)", x -> x.name(0, w, 8, in));
        beyond("name(0, " + what + ", -1)", x -> x.name(0, w, -1, in));
        beyond("name(0, " + what + ", 32)", x -> x.name(0, w, 32, in));
      }
      beyond("name(0, 2, 1)", x -> x.name(0, 2, 1, in));
      beyond("name(0, -1, 1)", x -> x.name(0, -1, 1, in));
      beyond("door(14)", x -> x.door(14, in));
      beyond("door(-1)", x -> x.door(-1, in));
      beyond("door(33)", x -> x.door(33, in));
    }
    beyond("lets(4, 0, 0)", x -> x.lets(4, 0, 0));
    beyond("lets(0, 4, 0)", x -> x.lets(0, 4, 0));
    beyond("lets(0, 0, 24)", x -> x.lets(0, 0, 24));
    beyond("letting(4, 0)", x -> x.letting(4, 0));
    beyond("letting(0, 24)", x -> x.letting(0, 24));
    beyond("joined(8)", x -> x.joined(8));
  }

  @Says(CHANGES_NOTHING)
  private static void waysRefused() {
    beyond("way(4, 0, 0)", x -> x.way(4, 0, 0));
    beyond("way(0, 8, 0)", x -> x.way(0, 8, 0));
    beyond("way(0, 0, 24)", x -> x.way(0, 0, 24));
    none("way(2, 5, 0)", x -> x.way(2, 5, 0));
    beyond("noise(4, 0, 0)", x -> x.noise(4, 0, 0));
    beyond("noise(0, 8, 0)", x -> x.noise(0, 8, 0));
    beyond("noise(0, 0, 24)", x -> x.noise(0, 0, 24));
    none("noise(2, 5, 0)", x -> x.noise(2, 5, 0));
    beyond("step(4, 0, 0)", x -> x.step(4, 0, 0));
    beyond("step(0, 24, 0)", x -> x.step(0, 24, 0));
    beyond("step(0, 0, 16)", x -> x.step(0, 0, 16));
    none("step(2, 0, 0)", x -> x.step(2, 0, 0));
    none("step(2, 0, 15)", x -> x.step(2, 0, 15));
    beyond("reach(4, 0)", x -> x.reach(4, 0));
    beyond("reach(0, -1)", x -> x.reach(0, -1));
    beyond("off(24)", x -> x.off(24));
    beyond("hours(4)", x -> x.hours(4));
    beyond("latest(4)", x -> x.latest(4));
    beyond("best(4)", x -> x.best(4));
    none("latest(3)", x -> x.latest(3));
    none("best(3)", x -> x.best(3));
  }

  @Says(CHANGES_NOTHING)
  private static void leavesRefused() {
    beyond("worth(4, 0)", x -> x.worth(4, 0));
    beyond("worth(0, 24)", x -> x.worth(0, 24));
    beyond("helps(4, 0)", x -> x.helps(4, 0));
    beyond("helps(0, 24)", x -> x.helps(0, 24));
    beyond("needs(4, 0)", x -> x.needs(4, 0));
    beyond("needs(0, 24)", x -> x.needs(0, 24));
    none("needs(3, 0)", x -> x.needs(3, 0));
    beyond("law(24)", x -> x.law(24));
    none("law(0)", x -> x.law(0));
    beyond("quarrel(4, 0, 0)", x -> x.quarrel(4, 0, 0));
    beyond("quarrel(0, 4, 0)", x -> x.quarrel(0, 4, 0));
    beyond("quarrel(0, 0, 0)", x -> x.quarrel(0, 0, 0));
    beyond("quarrel(0, 1, 24)", x -> x.quarrel(0, 1, 24));
    beyond("ring(4)", x -> x.ring(4));
    none("ring(0)", x -> {
      x.name(1, 0, 0, false);
      x.name(3, 0, 0, false);
      int got = x.ring(0);
      x.name(1, 0, 0, true);
      x.name(3, 0, 0, true);
      return got;
    });
    beyond("share(4, 0, 0, 0)", x -> x.share(4, 0, 0, 0));
    beyond("share(0, 4, 0, 0)", x -> x.share(0, 4, 0, 0));
    beyond("share(0, 0, 24, 0)", x -> x.share(0, 0, 24, 0));
    beyond("share(0, 0, 0, 2)", x -> x.share(0, 0, 0, 2));
  }

  @Says(CHANGES_NOTHING)
  private static void bedsRefused() {
    beyond("beds(4)", x -> x.beds(4));
    refused("swaps()", RefusedTest::rich, Due.STATE, x -> x.swaps());
    none("fire()", x -> x.fire());
    beyond("open(24)", x -> x.open(24));
    refused("open(0), all are open", RefusedTest::withAllDoors, Due.NONE, x -> x.open(0));
    refused("open(-1), all are open", RefusedTest::withAllDoors, Due.BEYOND, x -> x.open(-1));
    beyond("gossip(0)", x -> x.gossip(0));
    beyond("gossip(13)", x -> x.gossip(13));
    refused("gossip(0), no houses", RefusedTest::bare, Due.BEYOND, x -> x.gossip(0));
    refused("gossip(5), no houses", RefusedTest::bare, Due.STATE, x -> x.gossip(5));
  }

  @Says(CHANGES_NOTHING)
  private static void tapeRefused() {
    beyond("feed(-1, 0)", x -> x.feed(-1, 0));
    beyond("feed(-1, 5)", x -> x.feed(-1, 5));
    for (int n = 1; n <= 4; n++) {
      int bytes = n;
      refused("feed, full", RefusedTest::withFullTape, Due.FULL, x -> x.feed(-1, bytes));
    }
  }

  @Says(CHANGES_NOTHING)
  private static void spotsRefused() {
    beyond("hold(10, 0)", x -> x.hold(10, 0));
    beyond("hold(-1, -1)", x -> x.hold(-1, -1));
    beyond("hold(3, 4)", x -> x.hold(3, 4));
    beyond("hold(3, -2)", x -> x.hold(3, -2));
    beyond("as(10, 0)", x -> x.as(10, 0));
    beyond("as(3, 7)", x -> x.as(3, 7));
    refused("as(0, 0)", RefusedTest::rich, Due.MISSING, x -> x.as(0, 0));
    refused("as(3, 6)", RefusedTest::rich, Due.KIND, x -> x.as(3, 6));
  }

  @Says(CHANGES_NOTHING)
  private static void sheetsRefused() {
    beyond("sheet(4, 8, 1)", x -> x.sheet(4, 8, 1));
    for (int sheet = 0; sheet < 4; sheet++) {
      int s = sheet;
      beyond("sheet(" + s + ", 9, 1)", x -> x.sheet(s, 9, 1));
      beyond("sheet(" + s + ", 9, -1)", x -> x.sheet(s, 9, -1));
      for (int bits : new int[] {0, 8, 16, 32}) {
        beyond("sheet(" + s + ", " + bits + ", 41)", x -> x.sheet(s, bits, 41));
        refused("sheet(" + s + ", " + bits + ", -1)", RefusedTest::rich, Due.SIZE,
            x -> x.sheet(s, bits, -1));
      }
      if (s < 3) {
        beyond("write(" + s + ", at the end)", x -> x.write(s, 4 + s, 9));
        beyond("write(" + s + ", -1)", x -> x.write(s, -1, 9));
        refused("copy(" + s + ", missing)", RefusedTest::rich, Due.MISSING,
            x -> x.copy(s, 0, 3, 0, 1));
        refused("copy(missing, " + s + ")", RefusedTest::rich, Due.MISSING,
            x -> x.copy(3, 0, s, 0, 1));
        refused("copy(other bits)", RefusedTest::rich, Due.KIND,
            x -> x.copy(s, 0, (s + 1) % 3, 0, 1));
        copiesRefused(s, 4 + s);
      }
    }
    beyond("write(4, 0)", x -> x.write(4, 0, 9));
    refused("write(3, 0)", RefusedTest::rich, Due.MISSING, x -> x.write(3, 0, 9));
    beyond("copy(4, 0)", x -> x.copy(4, 0, 0, 0, 1));
    beyond("copy(0, 4)", x -> x.copy(0, 0, 4, 0, 1));
  }

  /** Within one sheet of so many numbers. */
  private static void copiesRefused(int s, int n) {
    beyond("copy from its end", x -> x.copy(s, n, s, 0, 1));
    beyond("copy to its end", x -> x.copy(s, 0, s, n, 1));
    beyond("copy too many", x -> x.copy(s, 1, s, 0, n));
    beyond("copy to too few", x -> x.copy(s, 0, s, 1, n));
    beyond("copy from -1", x -> x.copy(s, -1, s, 0, 2));
    beyond("copy to -1", x -> x.copy(s, 1, s, -1, 2));
    beyond("copy -1", x -> x.copy(s, 1, s, 0, -1));
    beyond("copy the most", x -> x.copy(s, 1, s, 0, MOST));
    beyond("copy from the most", x -> x.copy(s, MOST, s, 0, 2));
    beyond("copy to the most", x -> x.copy(s, 0, s, MOST, 2));
    beyond("copy the least", x -> x.copy(s, 1, s, 0, LEAST));
  }

  @Says(CHANGES_NOTHING)
  private static void loadAndJudgeRefused() {
    beyond("load(4)", x -> x.load(4));
    beyond("load(-1)", x -> x.load(-1));
    refused("load(3)", RefusedTest::rich, Due.MISSING, x -> x.load(3));
    beyond("judge(4, 0, 0)", x -> x.judge(4, 0, 0));
    refused("judge(3, 4, 0)", RefusedTest::rich, Due.MISSING, x -> x.judge(3, 4, 0));
    beyond("judge(0, 4, 0)", x -> x.judge(0, 4, 0));
    beyond("judge(0, 0, 24)", x -> x.judge(0, 0, 24));
  }

  @Says(CHANGES_NOTHING)
  private static void imagesRefused() {
    refused("undo()", RefusedTest::torn, Due.NONE, x -> x.undo());
    refused("undo(), no houses", RefusedTest::bare, Due.NONE, x -> x.undo());
    beyond("count(7)", x -> x.count(7));
    beyond("count(-1)", x -> x.count(-1));
    beyond("status(7)", x -> x.status(7));
    beyond("status(-2)", x -> x.status(-2));
  }

  // ---- calls that only tell

  @Says("Not promised: Nothing is promised beyond the answers and state changes described above")
  private static void tellingChangesNothing() {
    for (int clock : new int[] {0, 12, 21}) {
      telling("lets", RefusedTest::rich, x -> x.lets(0, 1, clock));
      telling("letting", RefusedTest::rich, x -> x.letting(1, clock));
      telling("way", RefusedTest::rich, x -> x.way(1, 2, clock));
      telling("noise", RefusedTest::rich, x -> x.noise(1, 2, clock));
      telling("reach", RefusedTest::rich, x -> x.reach(1, clock));
      telling("off", RefusedTest::rich, x -> x.off(clock));
      telling("worth", RefusedTest::rich, x -> x.worth(0, clock));
      telling("helps", RefusedTest::rich, x -> x.helps(2, clock));
      telling("quarrel", RefusedTest::rich, x -> x.quarrel(0, 1, clock));
      telling("share", RefusedTest::rich, x -> x.share(0, 1, clock, 1));
      telling("open", RefusedTest::rich, x -> x.open(clock));
      telling("judge", RefusedTest::rich, x -> x.judge(1, 1, clock));
    }
    telling("of", RefusedTest::rich, x -> x.of(0, 5));
    telling("joined", RefusedTest::rich, x -> x.joined(3));
    telling("step", RefusedTest::rich, x -> x.step(1, 12, 0));
    telling("hours", RefusedTest::rich, x -> x.hours(3));
    telling("latest", RefusedTest::rich, x -> x.latest(1));
    telling("best", RefusedTest::rich, x -> x.best(1));
    telling("needs", RefusedTest::rich, x -> x.needs(1, 12));
    telling("law", RefusedTest::bare, x -> x.law(12));
    telling("ring", RefusedTest::rich, x -> x.ring(0));
    telling("beds", RefusedTest::rich, x -> x.beds(3));
    telling("swaps", RefusedTest::bare, x -> x.swaps());
    telling("fire", RefusedTest::bare, x -> x.fire());
    telling("as", RefusedTest::rich, x -> x.as(3, 1));
    telling("count", RefusedTest::rich, x -> x.count(5));
    telling("status", RefusedTest::rich, x -> x.status(-1));
  }
}
