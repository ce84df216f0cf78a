/** Promises 19 to 25: what leaves are worth, what the law must add, quarrels, rings, shares. */
public final class LeavesTest {
  private static final Due DUE = new Due();
  private static final int[] EXTREMES = {-1, Integer.MIN_VALUE, Integer.MAX_VALUE};

  public static void main(String[] args) {
    promise19Worth();
    promise20Helps();
    promise21Needs();
    promise21NeedsLeastOfSeveral();
    promise22Law();
    promise23Quarrel();
    promise24Ring();
    promise25Share();
    promise25ShareWrong();
    DUE.end();
  }

  /** Each house's stair leads to the next one, the last one's back; nobody has leave. */
  private static StairRow neighbours(int many) {
    StairRow x = Due.row(many, 0);
    for (int h = 0; h < many; h++) {
      x.stair(h, h + 1 < many ? 1 : 0);
    }
    return x;
  }

  private static void promise19Worth() {
    StairRow x = neighbours(4);
    // Upper 0 has no stair. Family h goes by house h - 1, family 2 by house 3, too.
    Due.leave(x, 0, 2);
    Due.leave(x, 1, 4);
    Due.leave(x, 2, 8);
    DUE.is("19 house 0", x.worth(0, 12), 1);
    DUE.is("19 house 1", x.worth(1, 12), 1);
    DUE.is("19 house 3", x.worth(3, 12), 0);
    DUE.is("19 at night all are off", x.worth(0, 23), 0);
    x.name(3, 0, 2, true);
    DUE.is("19 one of two", x.worth(1, 12), 0);
    DUE.is("19 nothing changed", x.of(1, 2), 4);
    DUE.is("19 off stays", x.off(12), 1);
    x.change(3, 7, 1);
    x.change(2, 7, 1);
    Due.leave(x, 0, 14);
    Due.leave(x, 1, 14);
    DUE.is("19 three at once", x.worth(0, 12), 3);
    DUE.is("19 but one's own", x.worth(1, 12), 2);
    x.change(0, 0, 2);
    DUE.is("19 an open house asks no leave", x.worth(0, 12), 0);
    DUE.is("19 house 4", x.worth(4, 12), Due.BEYOND);
    DUE.is("19 clock 24", x.worth(0, 24), Due.BEYOND);
    for (int no : EXTREMES) {
      DUE.is("19 house", x.worth(no, 0), Due.BEYOND);
      DUE.is("19 clock", x.worth(0, no), Due.BEYOND);
    }
  }

  private static void promise20Helps() {
    StairRow x = neighbours(4);
    DUE.is("20 either neighbour", x.helps(2, 12), 2 | 8);
    DUE.is("20 the one", x.helps(1, 12), 1);
    DUE.is("20 no stair at all", x.helps(0, 12), 0);
    DUE.is("20 out of hours", x.helps(2, 23), 0);
    x.name(1, 0, 2, true);
    DUE.is("20 isn't off", x.helps(2, 12), 0);
    x.name(1, 0, 2, false);
    x.name(1, 1, 2, true);
    x.change(1, 0, 6);
    DUE.is("20 a foe's leave helps nothing", x.helps(2, 12), 8);
    x.change(2, 7, 0);
    DUE.is("20 two would be needed", x.helps(2, 12), 0);
    DUE.is("20 nothing changed", x.of(3, 2), 0);
    DUE.is("20 family 4", x.helps(4, 0), Due.BEYOND);
    DUE.is("20 clock 24", x.helps(0, 24), Due.BEYOND);
    for (int no : EXTREMES) {
      DUE.is("20 family", x.helps(no, 0), Due.BEYOND);
      DUE.is("20 clock", x.helps(0, no), Due.BEYOND);
    }
  }

  private static void promise21Needs() {
    StairRow x = neighbours(4);
    DUE.is("21 the least of two", x.needs(2, 12), 2);
    DUE.is("21 not if all do", x.needs(0, 12), Due.NONE);
    DUE.is("21 out of hours", x.needs(1, 23), Due.NONE);
    x.change(1, 0, 6);
    x.name(1, 1, 2, true);
    DUE.is("21 not the foe", x.needs(2, 12), 8);
    x.name(3, 0, 2, true);
    DUE.is("21 isn't off", x.needs(2, 12), 0);
    // In another's bed: its house and one whose stair leads there.
    x.change(3, 7, 1);
    DUE.is("21 two are needed", x.needs(3, 12), 1 | 2);
    x.name(0, 0, 3, true);
    DUE.is("21 one has given", x.needs(3, 12), 2);
    DUE.is("21 nothing changed", x.of(1, 2), 0);
    DUE.is("21 family 4", x.needs(4, 0), Due.BEYOND);
    DUE.is("21 clock 24", x.needs(0, 24), Due.BEYOND);
    for (int no : EXTREMES) {
      DUE.is("21 family", x.needs(no, 0), Due.BEYOND);
      DUE.is("21 clock", x.needs(0, no), Due.BEYOND);
    }
  }

  private static void promise21NeedsLeastOfSeveral() {
    // Home is upper 4: by houses 5 and 6 (stair 6 to 5, door on top), or by 0 1 2 3, or by 3.
    StairRow x = Due.row(8, 0);
    x.stair(0, 1);
    for (int d = 3; d < 9; d += 2) {
      x.door(d, true);
    }
    DUE.is("21 four on the one side", x.needs(4, 12), 15);
    x.stair(6, 0);
    x.door(9, true);
    DUE.is("21 two on the other", x.needs(4, 12), 32 | 64);
    x.stair(2, 1);
    DUE.is("21 two against two, the least", x.needs(4, 12), 4 | 8);
    x.stair(5, 0);
    DUE.is("21 one against two", x.needs(4, 12), 32);
    x.stair(3, 1);
    DUE.is("21 one against one", x.needs(4, 12), 8);
  }

  private static void promise22Law() {
    DUE.is("22 no houses", new StairRow().law(0), 0);
    StairRow x = neighbours(4);
    DUE.is("22 family 0 can't be helped", x.law(12), Due.NONE);
    x.stair(1, 0);
    DUE.is("22 one of family 3, 1 and 0, two of .. none of 2", x.law(12), 4);
    DUE.is("22 needs of 0", x.needs(0, 12), 2);
    DUE.is("22 needs of 1", x.needs(1, 12), 1);
    DUE.is("22 needs of 2", x.needs(2, 12), 8);
    DUE.is("22 needs of 3", x.needs(3, 12), 4);
    x.name(1, 0, 0, true);
    DUE.is("22 one less", x.law(12), 3);
    x.change(2, 7, 0);
    DUE.is("22 another bed", x.law(12), 4);
    DUE.is("22 at night", x.law(23), Due.NONE);
    DUE.is("22 nothing changed", x.of(3, 2), 0);
    DUE.is("22 clock 24", x.law(24), Due.BEYOND);
    for (int no : EXTREMES) {
      DUE.is("22 clock", x.law(no), Due.BEYOND);
    }
    StairRow one = Due.row(1, 3);
    DUE.is("22 one house alone", one.law(12), Due.NONE);
  }

  private static void promise23Quarrel() {
    StairRow x = neighbours(4);
    for (int h = 0; h < 4; h++) {
      Due.leave(x, h, 15);
    }
    // Off is 0 alone. 1 goes by 0; 2 by 1 or 3; 3 by 2.
    DUE.is("23 of 0 and 1", x.quarrel(0, 1, 12), 1);
    DUE.is("23 of 2 and 3", x.quarrel(3, 2, 12), 1);
    DUE.is("23 of 0 and 3", x.quarrel(0, 3, 12), 0);
    DUE.is("23 leave stays", x.of(0, 2), 15);
    DUE.is("23 no foes stay", x.of(1, 5), 0);
    x.stair(1, 0);
    DUE.is("23 both are off then", x.quarrel(0, 1, 12), 2);
    DUE.is("23 either way", x.quarrel(1, 0, 12), 2);
    Due.leave(x, 0, 0);
    DUE.is("23 one was off before", x.quarrel(0, 1, 12), 1);
    x.change(0, 0, 3);
    x.change(1, 0, 3);
    DUE.is("23 inns have no foes", x.quarrel(0, 1, 12), 0);
    DUE.is("23 with oneself", x.quarrel(1, 1, 12), Due.BEYOND);
    DUE.is("23 house 4", x.quarrel(4, 1, 12), Due.BEYOND);
    DUE.is("23 house 4", x.quarrel(1, 4, 12), Due.BEYOND);
    DUE.is("23 clock 24", x.quarrel(0, 1, 24), Due.BEYOND);
    for (int no : EXTREMES) {
      DUE.is("23 house a", x.quarrel(no, 0, 0), Due.BEYOND);
      DUE.is("23 house b", x.quarrel(0, no, 0), Due.BEYOND);
      DUE.is("23 clock", x.quarrel(0, 1, no), Due.BEYOND);
    }
  }

  private static void promise24Ring() {
    StairRow x = Due.row(8, 0);
    for (int h = 0; h < 8; h++) {
      x.name(h, 0, (h + 1) % 8, true);
      x.name(h, 0, h, true);
    }
    DUE.is("24 all eight", x.ring(0), 8);
    DUE.is("24 all eight", x.ring(7), 8);
    x.name(4, 0, 2, true);
    DUE.is("24 three", x.ring(3), 3);
    DUE.is("24 three", x.ring(2), 3);
    DUE.is("24 not on it", x.ring(1), 8);
    x.name(5, 0, 4, true);
    DUE.is("24 two", x.ring(5), 2);
    DUE.is("24 the shorter of two", x.ring(4), 2);
    x.name(7, 0, 0, false);
    DUE.is("24 broken", x.ring(0), Due.NONE);
    DUE.is("24 whole", x.ring(3), 3);
    DUE.is("24 leads to a ring, isn't on it", x.ring(1), Due.NONE);
    StairRow alone = Due.row(1, 0);
    alone.name(0, 0, 0, true);
    alone.name(0, 0, 1, true);
    DUE.is("24 itself is no ring", alone.ring(0), Due.NONE);
    alone.house(0);
    DUE.is("24 one way only", alone.ring(0), Due.NONE);
    alone.name(1, 0, 0, true);
    DUE.is("24 there and back", alone.ring(0), 2);
    DUE.is("24 house 2", alone.ring(2), Due.BEYOND);
    for (int no : EXTREMES) {
      DUE.is("24 house", alone.ring(no), Due.BEYOND);
    }
  }

  private static void share(StairRow x, int house, int family, int above, int below) {
    String call = "25 share(" + house + ", " + family + ") ";
    DUE.is(call + "above", x.share(house, family, 12, 0), above);
    DUE.is(call + "below", x.share(house, family, 12, 1), below);
  }

  private static void promise25Share() {
    StairRow x = neighbours(4);
    for (int h = 0; h < 4; h++) {
      Due.leave(x, h, 15);
    }
    share(x, 0, 1, 1, 1);
    share(x, 1, 2, 1, 2);
    share(x, 3, 2, 1, 2);
    share(x, 0, 2, 0, 1);
    share(x, 1, 1, 0, 1);
    share(x, 0, 0, 0, 1);
    x.change(3, 7, 2);
    // Home is upper 2, which needs house 2; then house 1, or its own ground 3.
    share(x, 2, 3, 1, 1);
    share(x, 1, 3, 0, 1);
    x.change(0, 7, 2);
    // Family 0: house 2, and house 1 or house 3.
    share(x, 2, 0, 3, 4);
    share(x, 1, 0, 1, 4);
    share(x, 3, 0, 1, 4);
    x.change(1, 0, 3);
    share(x, 2, 0, 1, 1);
    share(x, 1, 0, 0, 1);
    share(x, 3, 0, 0, 1);
    DUE.is("25 nothing changed", x.of(2, 2), 15);
    StairRow alone = Due.row(1, 0);
    share(alone, 0, 0, 0, 1);
  }

  private static void promise25ShareWrong() {
    StairRow x = neighbours(3);
    DUE.is("25 at night", x.share(0, 1, 23, 0), 0);
    DUE.is("25 house 3", x.share(3, 0, 0, 0), Due.BEYOND);
    DUE.is("25 family 3", x.share(0, 3, 0, 0), Due.BEYOND);
    DUE.is("25 clock 24", x.share(0, 0, 24, 0), Due.BEYOND);
    DUE.is("25 part 2", x.share(0, 0, 0, 2), Due.BEYOND);
    for (int no : EXTREMES) {
      DUE.is("25 house", x.share(no, 0, 0, 0), Due.BEYOND);
      DUE.is("25 family", x.share(0, no, 0, 0), Due.BEYOND);
      DUE.is("25 clock", x.share(0, 0, no, 0), Due.BEYOND);
      DUE.is("25 part", x.share(0, 0, 0, no), Due.BEYOND);
    }
  }
}
