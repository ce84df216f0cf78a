/** Promises 26 to 32: beds, fire, doors to open, the shift, gossip and its draws. */
public final class BedsTest {
  private static final Due DUE = new Due();
  private static final int[] EXTREMES = {-1, Integer.MIN_VALUE, Integer.MAX_VALUE};

  public static void main(String[] args) {
    promise26Beds();
    promise27Swaps();
    promise28Fire();
    promise29Open();
    promise30Shift();
    promise31Gossip();
    promise32Seed();
    DUE.end();
  }

  private static void beds(StairRow x, int... beds) {
    for (int f = 0; f < beds.length; f++) {
      x.change(f, 7, beds[f]);
    }
  }

  private static void promise26Beds() {
    StairRow x = Due.row(4, 0);
    DUE.is("26 at first", x.beds(2), 4);
    beds(x, 3, 1, 3, 3);
    DUE.is("26 three in one", x.beds(3), 1 | 4 | 8);
    DUE.is("26 nobody", x.beds(0), 0);
    DUE.is("26 its own", x.beds(1), 2);
    DUE.is("26 house 4", x.beds(4), Due.BEYOND);
    for (int no : EXTREMES) {
      DUE.is("26 house", x.beds(no), Due.BEYOND);
    }
  }

  private static void promise27Swaps() {
    DUE.is("27 no houses", new StairRow().swaps(), 0);
    StairRow x = Due.row(8, 0);
    DUE.is("27 all at home", x.swaps(), 0);
    beds(x, 1, 0, 2, 3, 4, 5, 6, 7);
    DUE.is("27 two", x.swaps(), 1);
    beds(x, 1, 0, 3, 2, 5, 6, 4, 7);
    DUE.is("27 two, two and three", x.swaps(), 4);
    beds(x, 1, 2, 3, 4, 5, 6, 7, 0);
    DUE.is("27 eight in one round", x.swaps(), 7);
    DUE.is("27 the beds stay", x.of(0, 7), 1);
    x.change(0, 7, 2);
    DUE.is("27 two sleep in one", x.swaps(), Due.STATE);
  }

  private static void promise28Fire() {
    DUE.is("28 no houses", new StairRow().fire(), 0);
    StairRow x = Due.row(1, 0);
    DUE.is("28 no stair", x.fire(), Due.NONE);
    x.house(0);
    x.stair(0, 1);
    DUE.is("28 one has no stair", x.fire(), Due.NONE);
    x.change(0, 7, 1);
    DUE.is("28 both by it, whoever may", x.fire(), 2);
    x.change(0, 7, 0);
    x.door(1, true);
    DUE.is("28 by the upper door", x.fire(), 3);
    StairRow y = Due.row(8, 0);
    y.stair(0, 1);
    for (int d = 1; d < 14; d += 2) {
      y.door(d, true);
    }
    DUE.is("28 from upper 7 to upper 1 and down", y.fire(), 8);
    y.stair(7, 0);
    DUE.is("28 two stairs", y.fire(), 4);
    y.door(5, false);
    DUE.is("28 4 are left", y.fire(), 5);
    y.door(7, false);
    DUE.is("28 one is shut in", y.fire(), Due.NONE);
    y.change(3, 7, 2);
    DUE.is("28 nobody sleeps there", y.fire(), 4);
    StairRow last = Due.row(8, 0);
    last.stair(6, 1);
    for (int f = 0; f < 8; f++) {
      last.change(f, 7, 7);
    }
    DUE.is("28 in the last house", last.fire(), 2);
  }

  private static void promise29Open() {
    StairRow x = new StairRow();
    DUE.is("29 none is better", x.open(0), 0);
    x.door(0, true);
    DUE.is("29 the first that is shut", x.open(0), 1);
    x = Due.openRow(4);
    x.stair(0, 1);
    DUE.is("29 the first of several", x.open(0), 1);
    x.door(1, true);
    DUE.is("29 the next", x.open(0), 3);
    x.door(5, true);
    DUE.is("29 it joins two", x.open(0), 3);
    x.door(3, true);
    DUE.is("29 nobody is off", x.open(0), 0);
    x.door(3, false);
    Due.leave(x, 1, 0);
    DUE.is("29 no door helps", x.open(0), 0);
    DUE.is("29 it stays shut", x.door(3, false), 0);
    StairRow far = Due.openRow(3);
    far.stair(1, 1);
    far.stair(0, 1);
    DUE.is("29 to upper 0", far.open(5), 1);
    StairRow all = Due.row(2, 0);
    for (int d = 0; d < 14; d++) {
      all.door(d, true);
    }
    DUE.is("29 all are open", all.open(0), Due.NONE);
    all.door(13, false);
    DUE.is("29 the last", all.open(0), 13);
    DUE.is("29 clock 24", all.open(24), Due.BEYOND);
    for (int no : EXTREMES) {
      DUE.is("29 clock", all.open(no), Due.BEYOND);
    }
  }

  private static void promise30Shift() {
    DUE.is("30 no houses", new StairRow().shift(), 0);
    StairRow x = Due.openRow(3);
    x.stair(0, 1);
    DUE.is("30 shift", x.shift(), 2);
    DUE.is("30 bed of 0", x.of(0, 7), 1);
    DUE.is("30 bed of 1", x.of(1, 7), 2);
    DUE.is("30 bed of 2", x.of(2, 7), 0);
    x.change(0, 3, 21);
    DUE.is("30 at 20, house 0 is shut", x.shift(), 3);
    DUE.is("30 bed of 0", x.of(0, 7), 2);
    x.change(0, 3, 20);
    DUE.is("30 at 20, just open", x.shift(), 2);
    beds(x, 0, 0, 0);
    DUE.is("30 all in upper 1", x.shift(), 0);
    DUE.is("30 all in upper 2", x.shift(), 3);
    DUE.is("30 they stay together", x.beds(2), 7);
  }

  private static void promise31Gossip() {
    StairRow x = new StairRow();
    DUE.is("31 no houses", x.gossip(1), Due.STATE);
    DUE.is("31 n 0, no houses", x.gossip(0), Due.BEYOND);
    DUE.is("31 z stays", x.count(5), 1);
    for (int h = 0; h < 5; h++) {
      x.house(0);
    }
    DUE.is("31 n 13", x.gossip(13), Due.BEYOND);
    for (int no : EXTREMES) {
      DUE.is("31 n", x.gossip(no), Due.BEYOND);
    }
    int z = 1;
    int[] leaves = new int[5];
    for (int n = 1; n <= 12; n++) {
      for (int k = 0; k < n; k++) {
        z = z * 1103515245 + 12345;
        int family = (z >>> 8) % 5;
        z = z * 1103515245 + 12345;
        leaves[(z >>> 8) % 5] |= 1 << family;
      }
      int pairs = 0;
      for (int h = 0; h < 5; h++) {
        pairs += Integer.bitCount(leaves[h] & ~(1 << h));
      }
      DUE.is("31 gossip(" + n + ")", x.gossip(n), pairs);
      DUE.is("31 z", x.count(5), z);
      for (int h = 0; h < 5; h++) {
        DUE.is("31 leave of " + h, x.of(h, 2), leaves[h]);
      }
    }
    StairRow one = Due.row(1, 0);
    one.name(0, 0, 5, true);
    DUE.is("31 its own, and one that isn't there", one.gossip(3), 0);
    DUE.is("31 leave", one.of(0, 2), 1 | 32);
    one.house(0);
    one.name(1, 0, 0, true);
    one.name(0, 0, 1, true);
    DUE.is("31 both pairs", one.gossip(12), 2);
  }

  private static void promise32Seed() {
    StairRow x = Due.row(2, 0);
    DUE.is("32 at first", x.seed(-1000001), 1);
    DUE.is("32 z may be any", x.seed(Integer.MIN_VALUE), -1000001);
    DUE.is("32 told by count", x.count(5), Integer.MIN_VALUE);
    x.seed(-1000007);
    DUE.is("32 count tells -1000007", x.count(5), -1000007);
    DUE.is("32 these are no findings", x.status(-1), 0);
    x.seed(0);
    x.gossip(1);
    // 0 becomes 12345, then 12345 * 1103515245 + 12345.
    DUE.is("32 the draws go on from it", x.seed(5), 12345 * 1103515245 + 12345);
  }
}
