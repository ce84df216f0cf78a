/** The sentences of promises 19 to 25 that name a boundary case: what leaves are worth. */
public final class EdgesOfLeavesTest {
  private static final Due DUE = new Due();

  public static void main(String[] args) {
    Sentences.run(EdgesOfLeavesTest.class, DUE);
  }

  /** Eight houses that nobody has leave in; up from ground 1 to upper 0, by doors to upper 7. */
  private static StairRow chain() {
    StairRow x = Due.row(8, 0);
    x.stair(1, 0);
    for (int d = 1; d < 14; d += 2) {
      x.door(d, true);
    }
    return x;
  }

  /** The same with leave for all. */
  private static StairRow openChain() {
    StairRow x = chain();
    for (int h = 0; h < 8; h++) {
      Due.leave(x, h, 255);
    }
    return x;
  }

  // ---- 19: worth

  @Says("19: How many more FAMILIES would be CUT OFF (none, all but one's own)")
  private static void worthNoneAndMost() {
    StairRow x = openChain();
    DUE.is("house 0: all others", x.worth(0, 12), 7);
    DUE.is("house 1: all others", x.worth(1, 12), 7);
    DUE.is("house 6: the last one alone", x.worth(6, 12), 1);
    DUE.is("house 7: nobody", x.worth(7, 12), 0);
    DUE.is("at 23 all are off but 1", x.worth(1, 23), 0);
    StairRow one = Due.row(1, 0);
    DUE.is("one house", one.worth(0, 12), 0);
  }

  @Says("19: if a HOUSE had no LEAVE for anybody (kinds that ask none stay open)")
  private static void worthOfKindsThatAskNone() {
    StairRow x = openChain();
    x.change(1, 0, 2);
    DUE.is("OPEN", x.worth(1, 12), 0);
    x.change(1, 0, 3);
    DUE.is("INN", x.worth(1, 12), 0);
    x.change(1, 0, 4);
    DUE.is("GUARD at 12", x.worth(1, 12), 0);
    DUE.is("GUARD at 13", x.worth(1, 13), 7);
    x.change(1, 0, 1);
    DUE.is("STRICT at 19", x.worth(1, 19), 7);
    DUE.is("STRICT at 20", x.worth(1, 20), 0);
  }

  @Says("19: if a HOUSE had none (it keeps its LEAVE)")
  private static void worthChangesNothing() {
    StairRow x = openChain();
    x.worth(0, 12);
    DUE.is("LEAVE", x.of(0, 2), 255);
    DUE.is("off", x.off(12), 0);
    DUE.is("again", x.worth(0, 12), 7);
  }

  @Says("19: BEYOND.")
  private static void worthBeyond() {
    for (int n = 1; n <= 8; n++) {
      StairRow x = Due.row(n, 0);
      DUE.range("house of " + n, 0, n - 1, h -> x.worth(h, 0));
      DUE.range("clock", 0, 23, c -> x.worth(0, c));
    }
    DUE.is("without houses", new StairRow().worth(0, 0), Due.BEYOND);
  }

  // ---- 20: helps

  @Says("20: HOUSES each of which alone .. would make it not CUT OFF at a CLOCK, as a set")
  private static void helpsAlone() {
    StairRow x = Due.row(8, 0);
    x.stair(1, 0);
    DUE.is("family 0 needs 1 alone", x.helps(0, 12), 2);
    x = Due.row(8, 0);
    x.stair(6, 1);
    DUE.is("family 7 needs 6 alone", x.helps(7, 12), 64);
    x = Due.row(8, 0);
    x.stair(3, 1);
    x.stair(5, 0);
    DUE.is("either neighbour", x.helps(4, 12), 8 | 32);
    DUE.is("two are needed for none", chain().helps(2, 12), 0);
    x = chain();
    x.name(1, 0, 2, true);
    DUE.is("the other one of two", x.helps(2, 12), 1);
  }

  @Says("20: if it put a FAMILY into LEAVE (which it need not let in by)")
  private static void helpsOfKinds() {
    int[] at12 = {2, 2, 0, 0, 0, 2, 2};
    int[] at13 = {2, 2, 0, 0, 2, 2, 2};
    int[] at20 = {2, 0, 0, 0, 0, 0, 0};
    int[] at6 = {2, 2, 0, 0, 2, 0, 2};
    for (int kind = 0; kind < 7; kind++) {
      StairRow x = Due.row(2, 0);
      x.stair(1, 0);
      x.change(1, 0, kind);
      DUE.is("kind " + kind + " at 12", x.helps(0, 12), at12[kind]);
      DUE.is("kind " + kind + " at 13", x.helps(0, 13), at13[kind]);
      DUE.is("kind " + kind + " at 20", x.helps(0, 20), at20[kind]);
      DUE.is("kind " + kind + " at 6", x.helps(0, 6), at6[kind]);
      DUE.is("kind " + kind + " at 5", x.helps(0, 5), 0);
      x.name(1, 1, 0, true);
      DUE.is("kind " + kind + ", a foe", x.helps(0, 13), kind == 6 ? 0 : at13[kind]);
    }
  }

  @Says("20: none if it isn't")
  private static void helpsNoneIfItIsnt() {
    StairRow x = openChain();
    for (int f = 0; f < 8; f++) {
      DUE.is("family " + f, x.helps(f, 12), 0);
    }
    DUE.is("that is no finding", x.status(-1), 0);
    StairRow y = chain();
    y.name(1, 0, 0, true);
    DUE.is("others could give leave, too", y.helps(0, 12), 0);
    y.name(1, 0, 0, false);
    DUE.is("it is off then", y.helps(0, 12), 2);
    DUE.is("no stair at all: nobody helps", Due.row(8, 0).helps(3, 12), 0);
    DUE.is("one house", Due.row(1, 0).helps(0, 12), 0);
  }

  @Says("20: BEYOND.")
  private static void helpsBeyond() {
    for (int n = 1; n <= 8; n++) {
      StairRow x = Due.row(n, 0);
      DUE.range("family of " + n, 0, n - 1, f -> x.helps(f, 0));
      DUE.range("clock", 0, 23, c -> x.helps(0, c));
    }
    DUE.is("without houses", new StairRow().helps(0, 0), Due.BEYOND);
  }

  // ---- 21: needs

  @Says("21: The fewest HOUSES, as a set, which .. make it not CUT OFF (none)")
  private static void needsNobody() {
    StairRow x = openChain();
    for (int f = 0; f < 8; f++) {
      DUE.is("family " + f, x.needs(f, 12), 0);
    }
    StairRow y = chain();
    y.name(1, 0, 0, true);
    DUE.is("others could give leave, too", y.needs(0, 12), 0);
    DUE.is("that is no finding", x.status(-1) + y.status(-1), 0);
  }

  @Says("21: The fewest HOUSES, as a set, which .. make it not CUT OFF (all others)")
  private static void needsAllOthers() {
    StairRow x = chain();
    DUE.is("family 0: house 1", x.needs(0, 12), 2);
    DUE.is("family 1: house 0", x.needs(1, 12), 1);
    for (int f = 2; f < 8; f++) {
      DUE.is("family " + f + ": all ahead", x.needs(f, 12), (1 << f) - 1);
    }
    x.change(1, 7, 7);
    DUE.is("family 1 in bed 7: all but itself", x.needs(1, 12), 255 - 2);
  }

  @Says("21: The fewest HOUSES (not the least number)")
  private static void needsFewestAheadOfLeast() {
    StairRow x = chain();
    x.stair(6, 1);
    DUE.is("6 alone, not 0 to 6", x.needs(7, 12), 64);
    DUE.is("6 and 7, not 0 to 4", x.needs(5, 12), 64 | 128);
    DUE.is("0 and 1, not 3 to 7", x.needs(2, 12), 1 | 2);
  }

  @Says("21: of several the least")
  private static void needsLeastOfSeveral() {
    StairRow x = Due.row(8, 0);
    x.stair(3, 1);
    x.stair(5, 0);
    DUE.is("3 or 5", x.needs(4, 12), 8);
    x = chain();
    x.stair(4, 1);
    DUE.is("0, 1 and 2 or 4 and 5: fewer", x.needs(3, 12), 16 | 32);
    x.name(0, 0, 3, true);
    DUE.is("1 and 2 or 4 and 5: the least", x.needs(3, 12), 2 | 4);
    x.name(4, 0, 3, true);
    DUE.is("5 alone", x.needs(3, 12), 32);
    x.name(1, 0, 3, true);
    DUE.is("2 or 5", x.needs(3, 12), 4);
  }

  @Says("21: NONE: not if all do.")
  private static void needsNone() {
    DUE.is("no stair", Due.row(8, 0).needs(0, 12), Due.NONE);
    DUE.is("out of hours", chain().needs(7, 23), Due.NONE);
    DUE.is("at 5", chain().needs(7, 5), Due.NONE);
    DUE.is("at 22", chain().needs(7, 22), 127);
    DUE.is("at 6", chain().needs(7, 6), 127);
    StairRow x = chain();
    x.change(3, 0, 6);
    x.name(3, 1, 7, true);
    DUE.is("a foe on the way", x.needs(7, 12), Due.NONE);
    DUE.is("who isn't one", x.needs(6, 12), 63);
    DUE.is("one house", Due.row(1, 3).needs(0, 12), Due.NONE);
  }

  @Says("21: BEYOND. NONE. (in this order)")
  private static void needsBeyond() {
    for (int n = 1; n <= 8; n++) {
      StairRow x = Due.row(n, 0);
      DUE.range("family of " + n, 0, n - 1, f -> x.needs(f, 0));
      DUE.range("clock", 0, 23, c -> x.needs(0, c));
    }
    DUE.is("without houses", new StairRow().needs(0, 0), Due.BEYOND);
  }

  // ---- 22: law

  @Says("22: so that nobody is CUT OFF at a CLOCK (none must be added)")
  private static void lawOfNone() {
    DUE.is("no houses", new StairRow().law(0), 0);
    DUE.is("nobody is off", openChain().law(12), 0);
    StairRow x = Due.row(1, 0);
    x.house(0);
    x.stair(0, 1);
    x.change(0, 7, 1);
    x.name(0, 0, 1, true);
    x.name(1, 0, 0, true);
    DUE.is("both in one bed, with leave", x.law(12), 0);
    x.name(1, 0, 0, false);
    DUE.is("one leave of the two", x.law(12), 1);
  }

  @Says("22: the sum of needs() of all FAMILIES (how many HOUSES)")
  private static void lawIsTheSum() {
    StairRow x = chain();
    DUE.is("1 + 1 + 2 + .. + 7", x.law(12), 1 + 1 + 2 + 3 + 4 + 5 + 6 + 7);
    x.change(0, 7, 7);
    x.change(1, 7, 7);
    DUE.is("seven of eight each", x.law(12), 7 + 7 + 2 + 3 + 4 + 5 + 6 + 7);
    DUE.is("nothing was added", x.of(0, 2), 0);
  }

  @Says("22: BEYOND. NONE: one can't be helped.")
  private static void lawNone() {
    StairRow x = chain();
    x.change(7, 0, 6);
    DUE.is("all can be helped", x.law(12), 29);
    x.door(13, false);
    DUE.is("but the last", x.law(12), Due.NONE);
    x.door(13, true);
    x.stair(1, -1);
    x.stair(0, 1);
    x.door(1, false);
    DUE.is("but the first", x.law(12), Due.NONE);
    DUE.is("clock 24 goes ahead", x.law(24), Due.BEYOND);
    DUE.range("clock", 0, 23, c -> x.law(c));
    StairRow none = new StairRow();
    DUE.range("clock, no houses", 0, 23, c -> none.law(c));
  }

  // ---- 23: quarrel

  @Says("23: how many more FAMILIES are CUT OFF at a CLOCK then (none, one, both)")
  private static void quarrelNoneOneBoth() {
    StairRow x = openChain();
    DUE.is("0 goes by 1, and 1 by 0", x.quarrel(0, 1, 12), 2);
    DUE.is("7 goes by 6", x.quarrel(6, 7, 12), 1);
    DUE.is("7 goes by 0", x.quarrel(7, 0, 12), 1);
    DUE.is("at 23 0 is off anyway", x.quarrel(0, 1, 23), 0);
    x.change(1, 0, 2);
    DUE.is("an OPEN house asks nobody", x.quarrel(0, 1, 12), 1);
    x.change(0, 0, 3);
    DUE.is("nor an INN", x.quarrel(0, 1, 12), 0);
    x.change(1, 0, 6);
    DUE.is("a QUARREL house does", x.quarrel(0, 1, 12), 1);
    x.change(1, 0, 4);
    DUE.is("a GUARD doesn't at 12", x.quarrel(0, 1, 12), 0);
    DUE.is("but at 13", x.quarrel(0, 1, 13), 1);
  }

  @Says("23: take each other's FAMILY out of LEAVE and into FOES .. (nothing stays so)")
  private static void quarrelStaysNot() {
    StairRow x = openChain();
    x.change(0, 0, 6);
    x.name(0, 1, 1, true);
    DUE.is("1 is 0's foe already", x.quarrel(0, 1, 12), 1);
    DUE.is("FOES of 0", x.of(0, 5), 2);
    DUE.is("FOES of 1", x.of(1, 5), 0);
    DUE.is("LEAVE of 0", x.of(0, 2), 255);
    DUE.is("LEAVE of 1", x.of(1, 2), 255);
    DUE.is("off", x.off(12), 2);
  }

  @Says("23: BEYOND: also one and the same.")
  private static void quarrelBeyond() {
    for (int n = 2; n <= 8; n++) {
      StairRow x = Due.row(n, 0);
      int last = n - 1;
      DUE.range("a of " + n, 0, last - 1, a -> x.quarrel(a, last, 0));
      DUE.range("b of " + n, 1, last, b -> x.quarrel(0, b, 0));
      DUE.range("clock", 0, 23, c -> x.quarrel(0, last, c));
      for (int h = 0; h < n; h++) {
        DUE.is("with itself", x.quarrel(h, h, 0), Due.BEYOND);
      }
    }
    DUE.is("of one house", Due.row(1, 0).quarrel(0, 0, 0), Due.BEYOND);
    DUE.is("with none", Due.row(1, 0).quarrel(0, 1, 0), Due.BEYOND);
    DUE.is("without houses", new StairRow().quarrel(0, 1, 0), Due.BEYOND);
  }

  // ---- 24: ring

  /** House h has the family of the next one in leave, the last one the first one's. */
  private static StairRow round(int many, int houses) {
    StairRow x = Due.row(houses, 0);
    for (int h = 0; h < many; h++) {
      x.name(h, 0, h + 1 < many ? h + 1 : 0, true);
    }
    return x;
  }

  @Says("24: (2 to 8 HOUSES)")
  private static void ringOfTwoToEight() {
    for (int many = 2; many <= 8; many++) {
      StairRow x = round(many, 8);
      for (int h = 0; h < 8; h++) {
        DUE.is("house " + h + " of a ring of " + many, x.ring(h), h < many ? many : Due.NONE);
      }
    }
  }

  @Says("24: it has the FAMILY of another one in LEAVE")
  private static void ringNotOfOne() {
    StairRow x = Due.row(8, 0);
    for (int h = 0; h < 8; h++) {
      x.name(h, 0, h, true);
      DUE.is("itself alone", x.ring(h), Due.NONE);
    }
    StairRow two = round(2, 2);
    two.name(0, 0, 0, true);
    DUE.is("itself and a ring", two.ring(0), 2);
  }

  @Says("24: How long the shortest ring of LEAVES is that goes through a HOUSE")
  private static void ringTheShortest() {
    StairRow x = round(8, 8);
    x.name(6, 0, 0, true);
    DUE.is("seven", x.ring(0), 7);
    DUE.is("eight, it isn't on the other", x.ring(7), 8);
    x.name(1, 0, 0, true);
    DUE.is("two", x.ring(0), 2);
    DUE.is("two", x.ring(1), 2);
    DUE.is("seven still", x.ring(2), 7);
    Due.leave(x, 0, 0);
    DUE.is("it leads nowhere", x.ring(0), Due.NONE);
    DUE.is("its rings are gone", x.ring(1), Due.NONE);
  }

  @Says("24: of another one (families of houses that there aren't are none)")
  private static void ringNotByHousesThatArentThere() {
    StairRow x = Due.row(1, 0);
    Due.leave(x, 0, 255);
    DUE.is("one house", x.ring(0), Due.NONE);
    x.house(0);
    DUE.is("two houses", x.ring(0), Due.NONE);
    Due.leave(x, 1, 255);
    DUE.is("there and back", x.ring(0), 2);
    DUE.is("back and there", x.ring(1), 2);
  }

  @Says("24: BEYOND. NONE. (in this order)")
  private static void ringBeyond() {
    for (int n = 1; n <= 8; n++) {
      StairRow x = Due.row(n, 0);
      DUE.range("house of " + n, 0, n - 1, h -> x.ring(h));
      DUE.is("no leaves", x.ring(n - 1), Due.NONE);
    }
    DUE.is("without houses", new StairRow().ring(0), Due.BEYOND);
  }

  // ---- 25: share

  private static void share(StairRow x, int house, int family, int above, int below) {
    String call = "share(" + house + ", " + family + ", 12) of ";
    DUE.is(call + "above", x.share(house, family, 12, 0), above);
    DUE.is(call + "below", x.share(house, family, 12, 1), below);
  }

  @Says("25: Which share .. as a fraction in lowest terms (0 and 1)")
  private static void shareNoneAndAll() {
    StairRow x = openChain();
    share(x, 0, 0, 0, 1);
    share(x, 1, 0, 1, 1);
    share(x, 0, 1, 1, 1);
    share(x, 7, 0, 0, 1);
    share(Due.row(1, 0), 0, 0, 0, 1);
    share(Due.row(8, 0), 3, 4, 0, 1);
    StairRow none = chain();
    for (int h = 0; h < 8; h++) {
      share(none, h, h == 0 ? 1 : 0, 0, 1);
    }
  }

  @Says("25: all sets of the other HOUSES' LEAVES (kept whole, or emptied): all but one needed")
  private static void shareOfOneSetInAll() {
    StairRow x = openChain();
    for (int f = 2; f < 8; f++) {
      // All houses ahead of f are needed: house 0 is in the one set of the others that has them all.
      share(x, 0, f, 1, 1 << (f - 1));
      share(x, f - 1, f, 1, 1 << (f - 1));
    }
    x.change(1, 7, 7);
    share(x, 7, 1, 1, 64);
    share(x, 0, 1, 1, 64);
    share(x, 1, 1, 0, 1);
  }

  @Says("25: (it is with it emptied, isn't with it kept): needed but in one")
  private static void shareOfAllSetsButOne() {
    StairRow x = openChain();
    x.stair(6, 1);
    // Family 7 goes by 6 at once, or by all of 0 to 6.
    share(x, 6, 7, 1, 1);
    share(x, 0, 7, 0, 1);
    // Family 5 goes by 6 and 7, or by 0 to 4.
    share(x, 6, 5, 31, 64);
    share(x, 7, 5, 31, 64);
    share(x, 0, 5, 3, 64);
    StairRow y = Due.row(8, 0);
    for (int h = 0; h < 8; h++) {
      Due.leave(y, h, 255);
    }
    // Family 6 goes by 7 at once, or by all of 0 to 5.
    y.stair(7, 0);
    y.stair(1, 0);
    for (int d = 1; d < 13; d += 2) {
      y.door(d, true);
    }
    share(y, 7, 6, 63, 64);
    share(y, 0, 6, 1, 64);
    share(y, 5, 6, 1, 64);
    share(y, 6, 6, 0, 1);
  }

  @Says("25: in lowest terms")
  private static void shareInLowestTerms() {
    StairRow x = Due.row(8, 0);
    for (int h = 0; h < 8; h++) {
      Due.leave(x, h, 255);
    }
    x.stair(3, 1);
    x.stair(5, 0);
    share(x, 3, 4, 1, 2);
    share(x, 5, 4, 1, 2);
    x.name(5, 0, 4, false);
    share(x, 3, 4, 1, 1);
    share(x, 5, 4, 0, 1);
    x.change(5, 0, 3);
    share(x, 3, 4, 0, 1);
  }

  @Says("25: the LEAVE of a HOUSE is needed in (which it doesn't ask for)")
  private static void shareOfKindsThatAskNone() {
    for (int kind = 0; kind < 7; kind++) {
      StairRow x = Due.row(2, 0);
      x.stair(1, 0);
      x.name(1, 0, 0, true);
      x.change(1, 0, kind);
      int at12 = kind == 2 || kind == 3 || kind == 4 ? 0 : 1;
      DUE.is("kind " + kind + " at 12", x.share(1, 0, 12, 0), at12);
      DUE.is("kind " + kind + " at 12, below", x.share(1, 0, 12, 1), 1);
      DUE.is("kind " + kind + " at 13", x.share(1, 0, 13, 0), kind == 2 || kind == 3 ? 0 : 1);
      DUE.is("kind " + kind + " at 23", x.share(1, 0, 23, 0), 0);
    }
  }

  @Says("25: part 0 above, 1 below. BEYOND.")
  private static void shareBeyond() {
    for (int n = 1; n <= 8; n++) {
      StairRow x = Due.row(n, 0);
      DUE.range("house of " + n, 0, n - 1, h -> x.share(h, 0, 0, 0));
      DUE.range("family of " + n, 0, n - 1, f -> x.share(0, f, 0, 1));
      DUE.range("clock", 0, 23, c -> x.share(0, 0, c, 0));
      DUE.range("part", 0, 1, part -> x.share(0, 0, 0, part));
    }
    DUE.is("without houses", new StairRow().share(0, 0, 0, 0), Due.BEYOND);
  }
}
