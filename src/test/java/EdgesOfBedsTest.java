/** The sentences of promises 26 to 32 that name a boundary case: beds, fire, doors, shift, gossip. */
public final class EdgesOfBedsTest {
  private static final Due DUE = new Due();

  public static void main(String[] args) {
    Sentences.run(EdgesOfBedsTest.class, DUE);
  }

  private static StairRow bedded(int... beds) {
    StairRow x = Due.row(beds.length, 0);
    for (int f = 0; f < beds.length; f++) {
      x.change(f, 7, beds[f]);
    }
    return x;
  }

  private static StairRow uppers(StairRow x) {
    for (int d = 1; d < 14; d += 2) {
      x.door(d, true);
    }
    return x;
  }

  // ---- 26: beds

  @Says("26: FAMILIES that sleep in a HOUSE's UPPER ROOM, as a set (none, all)")
  private static void bedsNoneAndAll() {
    for (int n = 1; n <= 8; n++) {
      StairRow x = Due.row(n, 0);
      for (int f = 0; f < n; f++) {
        x.change(f, 7, n - 1);
      }
      for (int h = 0; h < n; h++) {
        DUE.is("beds(" + h + ") of " + n, x.beds(h), h == n - 1 ? (1 << n) - 1 : 0);
      }
    }
  }

  @Says("26: BEYOND.")
  private static void bedsBeyond() {
    for (int n = 1; n <= 8; n++) {
      StairRow x = Due.row(n, 0);
      DUE.range("house of " + n, 0, n - 1, h -> x.beds(h));
    }
    DUE.is("without houses", new StairRow().beds(0), Due.BEYOND);
  }

  // ---- 27: swaps

  @Says("27: The fewest changes of two FAMILIES' BEDS (none)")
  private static void swapsNone() {
    for (int n = 0; n <= 8; n++) {
      DUE.is("of " + n + " houses", Due.row(n, 3).swaps(), 0);
    }
  }

  @Says("27: The fewest changes of two FAMILIES' BEDS by which each sleeps in its own HOUSE")
  private static void swapsOfEachRound() {
    DUE.is("two", bedded(1, 0).swaps(), 1);
    DUE.is("three", bedded(1, 2, 0).swaps(), 2);
    DUE.is("first and last", bedded(7, 1, 2, 3, 4, 5, 6, 0).swaps(), 1);
    DUE.is("four rounds of two", bedded(1, 0, 3, 2, 5, 4, 7, 6).swaps(), 4);
    DUE.is("a round of two in one of four", bedded(3, 2, 1, 4, 0).swaps(), 3);
    DUE.is("the most: one round of eight", bedded(1, 2, 3, 4, 5, 6, 7, 0).swaps(), 7);
    DUE.is("the other way round", bedded(7, 0, 1, 2, 3, 4, 5, 6).swaps(), 7);
  }

  @Says("27: STATE: two sleep in one.")
  private static void swapsOfTwoInOne() {
    DUE.is("two", bedded(0, 0).swaps(), Due.STATE);
    DUE.is("the last two", bedded(0, 1, 2, 3, 4, 5, 6, 6).swaps(), Due.STATE);
    DUE.is("first and last", bedded(7, 1, 2, 3, 4, 5, 6, 7).swaps(), Due.STATE);
    DUE.is("all in one", bedded(3, 3, 3, 3).swaps(), Due.STATE);
    StairRow x = bedded(1, 1);
    x.change(1, 7, 0);
    DUE.is("no longer", x.swaps(), 1);
    x.house(0);
    DUE.is("a new house has its own bed", x.swaps(), 1);
  }

  @Says("27: The fewest changes (none is made)")
  private static void swapsChangesNothing() {
    StairRow x = bedded(1, 0);
    DUE.is("one", x.swaps(), 1);
    DUE.is("one still", x.swaps(), 1);
    DUE.is("bed of 0", x.of(0, 7), 1);
  }

  // ---- 28: fire

  @Says("28: (0 without HOUSES)")
  private static void fireWithoutHouses() {
    DUE.is("fire()", new StairRow().fire(), 0);
  }

  @Says("28: a ROOM a minute .. and from a GROUND to the STREET in one (the least: two)")
  private static void fireOfTwoMinutes() {
    StairRow x = bedded(1, 1);
    x.stair(0, 1);
    DUE.is("by one stair", x.fire(), 2);
    StairRow y = Due.row(8, 0);
    for (int h = 0; h < 8; h++) {
      y.stair(h, h % 2 == 0 ? 1 : 0);
    }
    DUE.is("a stair each", y.fire(), 2);
  }

  @Says("28: the longest (nine minutes)")
  private static void fireOfNineMinutes() {
    StairRow x = uppers(Due.row(8, 0));
    x.stair(1, 0);
    DUE.is("from upper 7 to upper 0", x.fire(), 9);
    x.change(7, 7, 0);
    DUE.is("nobody sleeps there", x.fire(), 8);
    StairRow y = uppers(Due.row(8, 0));
    y.stair(6, 1);
    DUE.is("from upper 0 to upper 7", y.fire(), 9);
    y.stair(1, 0);
    DUE.is("the nearer of two", y.fire(), 5);
  }

  @Says("28: by joined ROOMS (whoever may)")
  private static void fireWhoeverMay() {
    StairRow x = uppers(Due.row(2, 6));
    Due.foes(x, 0, 255);
    Due.foes(x, 1, 255);
    x.stair(1, 0);
    DUE.is("nobody is let in", x.fire(), 3);
    DUE.is("both are off", x.off(12), 3);
  }

  @Says("28: NONE: one can't (also if it sleeps where no stair comes and no open DOOR leads to one)")
  private static void fireNone() {
    DUE.is("one house", Due.row(1, 0).fire(), Due.NONE);
    StairRow x = uppers(Due.row(8, 0));
    DUE.is("no stair", x.fire(), Due.NONE);
    x.stair(0, 1);
    DUE.is("one stair", x.fire(), 8);
    x.door(13, false);
    DUE.is("the last can't", x.fire(), Due.NONE);
    x.door(13, true);
    x.door(1, false);
    DUE.is("the first can't", x.fire(), Due.NONE);
    x.change(0, 7, 1);
    DUE.is("it sleeps elsewhere", x.fire(), 8);
  }

  @Says("28: where no stair comes (but one to a HOUSE that there isn't)")
  private static void fireByNoStair() {
    StairRow x = Due.row(1, 0);
    x.stair(0, 1);
    x.door(1, true);
    DUE.is("to none yet", x.fire(), Due.NONE);
    x.house(0);
    DUE.is("then it is there", x.fire(), 3);
  }

  // ---- 29: open

  @Says("29: The DOOR (of all 14; shut now) .. fewest FAMILIES are CUT OFF at a CLOCK")
  private static void openOfAllDoors() {
    for (int d = 1; d < 14; d += 2) {
      // Two uppers beside each other, a stair to the one: the door between them helps.
      int h = d / 2;
      StairRow x = Due.openRow(8);
      x.stair(h + 1, 0);
      for (int f = 0; f < 8; f++) {
        x.change(f, 7, h + 1);
      }
      DUE.is("door " + d, x.open(0), d);
      DUE.is("it stays shut", x.count(1), 0);
    }
  }

  @Says("29: of several that would do the least number counts")
  private static void openTheLeast() {
    StairRow x = new StairRow();
    for (int d = 0; d < 14; d++) {
      DUE.is("none is better, shut from " + d, x.open(0), d);
      x.door(d, true);
    }
    x.door(5, false);
    x.door(9, false);
    DUE.is("5 or 9", x.open(23), 5);
    for (int n = 1; n <= 8; n++) {
      DUE.is("all " + n + " are off whatever is open", Due.row(n, 0).open(12), 0);
    }
  }

  @Says("29: by whose being open (it alone)")
  private static void openEachAlone() {
    StairRow x = Due.openRow(4);
    x.stair(0, 1);
    for (int f = 0; f < 4; f++) {
      x.change(f, 7, 3);
    }
    DUE.is("3 and 5 would help together, none alone", x.open(0), 0);
    x.door(5, true);
    DUE.is("3 helps then", x.open(0), 3);
    x.change(0, 7, 0);
    DUE.is("three by 3, one by 1", x.open(0), 3);
    x.change(1, 7, 0);
    DUE.is("two by 3, two by 1", x.open(0), 1);
  }

  @Says("29: shut now")
  private static void openNotWhatIsOpen() {
    StairRow x = Due.openRow(3);
    x.stair(1, 0);
    x.door(1, true);
    x.change(2, 7, 1);
    DUE.is("nobody is off by door 1, which is open", x.off(0), 0);
    DUE.is("the first that is shut", x.open(0), 0);
    x.change(2, 7, 2);
    DUE.is("3 helps", x.open(0), 3);
  }

  @Says("29: fewest FAMILIES are CUT OFF at a CLOCK (as they are let in then)")
  private static void openAtAClock() {
    StairRow x = Due.openRow(3);
    x.stair(0, 1);
    x.change(2, 3, 0);
    x.change(2, 4, 12);
    x.change(0, 7, 2);
    x.change(2, 7, 1);
    DUE.is("at 12 house 2 lets in", x.open(12), 3);
    DUE.is("at 13 it doesn't", x.open(13), 0);
  }

  @Says("29: BEYOND. NONE: all are open. (in this order)")
  private static void openNone() {
    StairRow x = Due.row(2, 0);
    DUE.range("clock", 0, 23, c -> x.open(c));
    for (int d = 0; d < 14; d++) {
      x.door(d, true);
    }
    DUE.is("all are open", x.open(0), Due.NONE);
    DUE.is("all are open", x.open(23), Due.NONE);
    DUE.is("clock 24", x.open(24), Due.BEYOND);
    DUE.is("clock -1", x.open(-1), Due.BEYOND);
    x.door(0, false);
    DUE.is("one is shut", x.open(0), 0);
  }

  // ---- 30: shift

  @Says("30: BED of each FAMILY becomes the next HOUSE (0 behind the last)")
  private static void shiftGoesRound() {
    for (int n = 1; n <= 8; n++) {
      StairRow x = Due.row(n, 0);
      for (int k = 1; k <= n; k++) {
        DUE.is("all are off", x.shift(), n);
        for (int f = 0; f < n; f++) {
          DUE.is("bed of " + f + " of " + n, x.of(f, 7), (f + k) % n);
        }
      }
      DUE.is("round once", x.swaps(), 0);
    }
  }

  @Says("30: how many are CUT OFF at CLOCK 20 then")
  private static void shiftAtTwenty() {
    StairRow x = Due.row(2, 2);
    x.stair(0, 1);
    x.change(0, 3, 20);
    x.change(0, 4, 20);
    x.change(1, 3, 20);
    x.change(1, 4, 20);
    DUE.is("family 0 sleeps in upper 1 then", x.shift(), 1);
    x.change(0, 3, 21);
    x.change(0, 4, 19);
    DUE.is("house 0 is shut at 20, 1 sleeps behind it", x.shift(), 2);
    x.change(0, 3, 19);
    x.change(0, 4, 20);
    x.change(1, 7, 0);
    DUE.is("both sleep in upper 1 then", x.shift(), 0);
  }

  @Says("30: how many are CUT OFF (nobody without houses)")
  private static void shiftWithoutHouses() {
    StairRow x = new StairRow();
    DUE.is("shift()", x.shift(), 0);
    DUE.is("no finding", x.status(-1), 0);
  }

  // ---- 31: gossip

  @Says("31: n times (1 to 12) .. BEYOND.")
  private static void gossipOneToTwelve() {
    StairRow x = Due.row(8, 0);
    DUE.range("n", 1, 12, n -> x.gossip(n));
  }

  @Says("31: n times")
  private static void gossipDrawsTwiceEach() {
    for (int n = 1; n <= 12; n++) {
      StairRow x = Due.row(3, 0);
      x.gossip(n);
      int z = 1;
      int[] leaves = new int[3];
      for (int k = 0; k < n; k++) {
        z = z * 1103515245 + 12345;
        int family = (z >>> 8) % 3;
        z = z * 1103515245 + 12345;
        leaves[(z >>> 8) % 3] |= 1 << family;
      }
      DUE.is("z behind " + n, x.count(5), z);
      for (int h = 0; h < 3; h++) {
        DUE.is("LEAVE of " + h, x.of(h, 2), leaves[h]);
      }
    }
  }

  @Says("31: STATE: there are none. (behind BEYOND)")
  private static void gossipWithoutHouses() {
    StairRow x = new StairRow();
    DUE.is("n 1", x.gossip(1), Due.STATE);
    DUE.is("n 12", x.gossip(12), Due.STATE);
    DUE.is("n 0", x.gossip(0), Due.BEYOND);
    DUE.is("n 13", x.gossip(13), Due.BEYOND);
    DUE.is("z stays", x.count(5), 1);
  }

  @Says("31: how many pairs of HOUSE and other FAMILY there are in LEAVE then (of those there are)")
  private static void gossipCountsOthersThereAre() {
    StairRow one = Due.row(1, 0);
    Due.leave(one, 0, 255);
    DUE.is("one house: itself, and such as aren't there", one.gossip(12), 0);
    DUE.is("z is drawn on", one.count(5) == 1 ? 1 : 0, 0);
    one.house(0);
    DUE.is("two houses: at least the one", one.gossip(1) >= 1 ? 1 : 0, 1);
    StairRow all = Due.openRow(8);
    DUE.is("the most", all.gossip(12), 56);
    StairRow three = Due.openRow(3);
    DUE.is("of three", three.gossip(1), 6);
  }

  @Says("31: the rest of a draw by how many HOUSES there are (draws of a z below 0)")
  private static void gossipOfNegativeDraws() {
    for (int n = 1; n <= 8; n++) {
      StairRow x = Due.row(n, 0);
      // 0 * .. + 12345 is above 0; this z makes the next one -1, and that one below 0, too.
      x.seed((int) (-12346L * inverse(1103515245L)));
      x.gossip(1);
      int second = -1103515245 + 12345;
      DUE.is("z of " + n, x.count(5), second);
      int family = 0xffffff % n;
      int house = (second >>> 8) % n;
      DUE.is("LEAVE of " + house, x.of(house, 2), 1 << family);
    }
  }

  /** The number by which an odd one times it ends in a 1, of 32 bits. */
  private static long inverse(long odd) {
    long guess = odd;
    for (int k = 0; k < 5; k++) {
      guess *= 2 - odd * guess;
    }
    return guess;
  }

  // ---- 32: seed

  @Says("32: z becomes v: what it was.")
  private static void seedOfEnds() {
    StairRow x = Due.row(2, 0);
    DUE.is("1 at first", x.seed(Integer.MIN_VALUE), 1);
    DUE.is("the least", x.seed(Integer.MAX_VALUE), Integer.MIN_VALUE);
    DUE.is("the greatest", x.seed(0), Integer.MAX_VALUE);
    DUE.is("0", x.seed(-1), 0);
    DUE.is("-1", x.seed(1), -1);
    x.gossip(1);
    int z = (1103515245 + 12345) * 1103515245 + 12345;
    DUE.is("behind two draws", x.seed(1), z);
  }
}
