/** The sentences of promises 1 to 10 that name a boundary case: houses, doors, who is let in. */
public final class EdgesOfHousesTest {
  private static final Due DUE = new Due();

  public static void main(String[] args) {
    Sentences.run(EdgesOfHousesTest.class, DUE);
  }

  // ---- 1: a new object

  @Says("1: All as at first; no HOUSES")
  private static void newHasNoHouses() {
    StairRow x = new StairRow();
    DUE.is("count(0)", x.count(0), 0);
    DUE.is("of(0, 0)", x.of(0, 0), Due.BEYOND);
    DUE.is("joined(0)", x.joined(0), Due.BEYOND);
    DUE.is("letting(0, 0)", x.letting(0, 0), Due.BEYOND);
    DUE.is("off(0)", x.off(0), 0);
    DUE.is("count(2), stairs", x.count(2), 0);
    DUE.is("count(3), sleepers", x.count(3), 0);
  }

  @Says("1: All as at first (doors shut, z 1, nothing in spots, sheets missing, no findings)")
  private static void newHasNothingElse() {
    StairRow x = new StairRow();
    for (int which = -1; which < 7; which++) {
      DUE.is("status(" + which + ")", x.status(which), 0);
    }
    DUE.is("count(1), open doors", x.count(1), 0);
    DUE.is("count(5), z", x.count(5), 1);
    DUE.is("count(6), spots", x.count(6), 0);
    for (int s = 0; s < 4; s++) {
      DUE.is("load(" + s + ")", x.load(s), Due.MISSING);
    }
    for (int spot = 0; spot < 10; spot++) {
      DUE.is("as(" + spot + ", 0)", x.as(spot, 0), Due.MISSING);
    }
  }

  @Says("1: THE TAPE is empty, no image is kept.")
  private static void newHasNoTapeAndNoImage() {
    StairRow x = new StairRow();
    DUE.is("count(4)", x.count(4), 0);
    DUE.is("wipe()", x.wipe(), 0);
    DUE.is("tear()", x.tear(), 0);
    DUE.is("undo()", x.undo(), Due.NONE);
    DUE.is("text()", x.text(), -1);
  }

  @Says("1: a new object shares nothing with those made before")
  private static void newSharesNothing() {
    StairRow x = Due.openRow(8);
    x.door(3, true);
    x.seed(9);
    x.hold(0, 0);
    x.sheet(0, 8, 1);
    x.feed(0, 4);
    x.image();
    x.of(9, 0);
    newHasNoHouses();
    newHasNothingElse();
    newHasNoTapeAndNoImage();
  }

  // ---- 2: house

  @Says("2: A new HOUSE: its number.")
  private static void houseNumbersGoOn() {
    StairRow x = new StairRow();
    DUE.is("the first", x.house(6), 0);
    x.image();
    DUE.is("the second", x.house(0), 1);
    x.undo();
    DUE.is("the second once more", x.house(3), 1);
    DUE.is("its kind", x.of(1, 0), 3);
  }

  @Says("2: A new HOUSE is as at first, whatever stood at its number")
  private static void houseIsAsAtFirst() {
    StairRow x = new StairRow();
    x.image();
    x.house(6);
    x.house(6);
    for (int f = 0; f < 8; f++) {
      x.name(0, 0, f, true);
      x.name(0, 1, f, true);
    }
    x.stair(0, 1);
    x.change(0, 3, 0);
    x.change(0, 4, 0);
    x.change(0, 6, 9);
    x.change(0, 7, 1);
    x.undo();
    x.house(2);
    int[] due = {2, -1, 0, 6, 22, 0, 2, 0};
    for (int what = 0; what < 8; what++) {
      DUE.is("of(0, " + what + ")", x.of(0, what), due[what]);
    }
  }

  @Says("2: BEYOND.")
  private static void houseOfNoKind() {
    StairRow x = new StairRow();
    DUE.range("house", 0, 6, kind -> new StairRow().house(kind));
    DUE.is("house(7)", x.house(7), Due.BEYOND);
    DUE.is("house(-1)", x.house(-1), Due.BEYOND);
    DUE.is("none came", x.count(0), 0);
  }

  @Says("2: FULL.")
  private static void houseOfAFullRow() {
    StairRow x = Due.row(7, 0);
    DUE.is("the eighth", x.house(6), 7);
    for (int kind = 0; kind < 7; kind++) {
      DUE.is("house(" + kind + ")", x.house(kind), Due.FULL);
    }
    DUE.is("still eight", x.count(0), 8);
  }

  @Says("2: BEYOND. FULL. (in this order)")
  private static void houseBeyondAheadOfFull() {
    StairRow x = Due.row(8, 0);
    DUE.is("house(7)", x.house(7), Due.BEYOND);
    DUE.is("house(-1)", x.house(-1), Due.BEYOND);
    DUE.is("house(6)", x.house(6), Due.FULL);
    DUE.is("BEYOND twice", x.status(0), 2);
    DUE.is("FULL once", x.status(1), 1);
  }

  // ---- 3: of

  @Says("3: 1 STAIR (-1)")
  private static void ofNoStair() {
    StairRow x = Due.row(2, 0);
    DUE.is("none", x.of(0, 1), -1);
    x.stair(1, 0);
    DUE.is("to house 0", x.of(1, 1), 0);
    x.stair(1, -1);
    DUE.is("none again", x.of(1, 1), -1);
    DUE.is("-1 is no finding", x.status(-1), 0);
  }

  @Says("3: what 0 KIND .. 7 BED of its FAMILY. BEYOND.")
  private static void ofFirstAndLastWhat() {
    StairRow x = Due.row(1, 6);
    DUE.range("of(0, what)", 0, 7, what -> x.of(0, what));
    DUE.is("KIND", x.of(0, 0), 6);
    x.house(0);
    x.change(0, 7, 1);
    DUE.is("BED", x.of(0, 7), 1);
    DUE.is("BED of the other", x.of(1, 7), 1);
  }

  @Says("3: Of a HOUSE .. BEYOND.")
  private static void ofFirstAndLastHouse() {
    for (int n = 1; n <= 8; n++) {
      StairRow x = Due.row(n, 0);
      DUE.range("of(house, 7) of " + n, 0, n - 1, h -> x.of(h, 7));
    }
  }

  // ---- 4: change

  @Says("4: KIND (what 0) .. becomes v: what it was. BEYOND.")
  private static void changeKindToItsEnds() {
    StairRow x = Due.row(1, 6);
    DUE.is("to 0", x.change(0, 0, 0), 6);
    DUE.is("to 6", x.change(0, 0, 6), 0);
    DUE.is("to 6 again", x.change(0, 0, 6), 6);
    DUE.is("to 7", x.change(0, 0, 7), Due.BEYOND);
    DUE.is("to -1", x.change(0, 0, -1), Due.BEYOND);
    DUE.is("it is 6", x.of(0, 0), 6);
  }

  @Says("4: FROM (3), TO (4) .. becomes v: what it was. BEYOND.")
  private static void changeHoursToTheirEnds() {
    for (int what = 3; what <= 4; what++) {
      StairRow x = Due.row(1, 0);
      DUE.is("to 0", x.change(0, what, 0), what == 3 ? 6 : 22);
      DUE.is("to 23", x.change(0, what, 23), 0);
      DUE.is("to 24", x.change(0, what, 24), Due.BEYOND);
      DUE.is("to -1", x.change(0, what, -1), Due.BEYOND);
      DUE.is("it is 23", x.of(0, what), 23);
      DUE.is("the other stays", x.of(0, 7 - what), what == 3 ? 22 : 6);
    }
  }

  @Says("4: SLEEPERS (6) .. becomes v: what it was. BEYOND.")
  private static void changeSleepersToTheirEnds() {
    StairRow x = Due.row(1, 0);
    DUE.is("to 0", x.change(0, 6, 0), 2);
    DUE.is("to 9", x.change(0, 6, 9), 0);
    DUE.is("to 10", x.change(0, 6, 10), Due.BEYOND);
    DUE.is("to -1", x.change(0, 6, -1), Due.BEYOND);
    DUE.is("it is 9", x.of(0, 6), 9);
  }

  @Says("4: BED (7) of a HOUSE becomes v: what it was. BEYOND.")
  private static void changeBedToItsEnds() {
    for (int n = 1; n <= 8; n++) {
      StairRow x = Due.row(n, 0);
      DUE.range("BED of " + n, 0, n - 1, v -> x.change(0, 7, v));
      DUE.is("the last house", x.of(0, 7), n - 1);
      DUE.is("to 0", x.change(0, 7, 0), n - 1);
    }
  }

  @Says("4: KIND (what 0), FROM (3), TO (4), SLEEPERS (6), BED (7): no other what. BEYOND.")
  private static void changeOfNothingElse() {
    StairRow x = Due.row(2, 0);
    for (int what : new int[] {1, 2, 5, 8, 9, -1, 64, 256, Integer.MIN_VALUE, Integer.MAX_VALUE}) {
      for (int v = -1; v < 2; v++) {
        DUE.is("change(0, " + what + ", " + v + ")", x.change(0, what, v), Due.BEYOND);
      }
    }
    DUE.is("STAIR", x.of(0, 1), -1);
    DUE.is("LEAVE", x.of(0, 2), 0);
    DUE.is("FOES", x.of(0, 5), 0);
  }

  @Says("4: of a HOUSE .. BEYOND.")
  private static void changeOfFirstAndLastHouse() {
    for (int n = 1; n <= 8; n++) {
      StairRow x = Due.row(n, 0);
      DUE.range("KIND of " + n, 0, n - 1, h -> x.change(h, 0, 1));
      DUE.range("FROM of " + n, 0, n - 1, h -> x.change(h, 3, 1));
      DUE.range("TO of " + n, 0, n - 1, h -> x.change(h, 4, 1));
      DUE.range("SLEEPERS of " + n, 0, n - 1, h -> x.change(h, 6, 1));
      DUE.range("BED of " + n, 0, n - 1, h -> x.change(h, 7, 0));
    }
  }

  // ---- 5: stair

  @Says("5: way (-1: none, 0: h - 1, 1: h + 1 ..)")
  private static void stairFirstAndLastWay() {
    StairRow x = Due.row(3, 0);
    DUE.range("way", -1, 1, way -> x.stair(1, way));
    DUE.is("1: h + 1", x.of(1, 1), 2);
    DUE.is("to 0: which before", x.stair(1, 0), 2);
    DUE.is("0: h - 1", x.of(1, 1), 0);
    DUE.is("to -1: which before", x.stair(1, -1), 0);
    DUE.is("-1: none", x.of(1, 1), -1);
  }

  @Says("5: also if there is none yet")
  private static void stairToNoneYet() {
    for (int n = 1; n < 8; n++) {
      StairRow x = Due.row(n, 0);
      DUE.is("right of the last", x.stair(n - 1, 1), -1);
      DUE.is("STAIR", x.of(n - 1, 1), n);
      DUE.is("joined to nothing", x.joined(2 * n - 2), 0);
      x.house(0);
      DUE.is("joined then", x.joined(2 * n - 2), 1 << (2 * n + 1));
      DUE.is("and back", x.joined(2 * n + 1), 1 << (2 * n - 2));
    }
  }

  @Says("5: which HOUSE before (-1: none)")
  private static void stairWhichBefore() {
    StairRow x = Due.row(2, 0);
    DUE.is("none before", x.stair(1, 0), -1);
    DUE.is("0 before", x.stair(1, 0), 0);
    DUE.is("0 before", x.stair(1, -1), 0);
    DUE.is("none before", x.stair(1, -1), -1);
    DUE.is("-1 is no finding", x.status(-1), 0);
  }

  @Says("5: BEYOND: also way 0 with h 0, 1 with h 7.")
  private static void stairOutOfTheRow() {
    StairRow x = Due.row(8, 0);
    x.stair(0, 1);
    x.stair(7, 0);
    DUE.is("way 0 with h 0", x.stair(0, 0), Due.BEYOND);
    DUE.is("way 1 with h 7", x.stair(7, 1), Due.BEYOND);
    DUE.is("STAIR of 0 stays", x.of(0, 1), 1);
    DUE.is("STAIR of 7 stays", x.of(7, 1), 6);
    DUE.is("way 0 with h 1", x.stair(1, 0), -1);
    DUE.is("way 1 with h 6", x.stair(6, 1), -1);
    DUE.is("way -1 with h 0", x.stair(0, -1), 1);
    DUE.is("way -1 with h 7", x.stair(7, -1), 6);
  }

  @Says("5: STAIR of a HOUSE h .. BEYOND")
  private static void stairOfFirstAndLastHouse() {
    for (int n = 1; n <= 8; n++) {
      StairRow x = Due.row(n, 0);
      DUE.range("stair(h, -1) of " + n, 0, n - 1, h -> x.stair(h, -1));
    }
    DUE.is("of no house yet", Due.row(3, 0).stair(3, 0), Due.BEYOND);
  }

  // ---- 6: name

  @Says("6: A FAMILY (0 to 7)")
  private static void nameFirstAndLastFamily() {
    StairRow x = Due.row(1, 0);
    for (int what = 0; what < 2; what++) {
      int w = what;
      DUE.range("in, what " + what, 0, 7, f -> x.name(0, w, f, true));
      DUE.range("not in, what " + what, 0, 7, f -> x.name(0, w, f, false));
      DUE.is("none is in", x.of(0, what == 0 ? 2 : 5), 0);
    }
  }

  @Says("6: is in LEAVE (what 0), in FOES (1) of a HOUSE")
  private static void nameFirstAndLastWhat() {
    StairRow x = Due.row(1, 0);
    DUE.range("what", 0, 1, what -> x.name(0, what, 3, true));
    x.name(0, 0, 0, true);
    x.name(0, 1, 7, true);
    DUE.is("LEAVE", x.of(0, 2), 8 | 1);
    DUE.is("FOES", x.of(0, 5), 8 | 128);
  }

  @Says("6: or not: 1 if it was, else 0.")
  private static void nameTellsWhetherItWas() {
    for (int what = 0; what < 2; what++) {
      StairRow x = Due.row(2, 0);
      DUE.is("out of the empty set", x.name(1, what, 7, false), 0);
      DUE.is("into it", x.name(1, what, 7, true), 0);
      DUE.is("once more", x.name(1, what, 7, true), 1);
      DUE.is("the neighbour", x.name(1, what, 6, true), 0);
      DUE.is("out", x.name(1, what, 7, false), 1);
      DUE.is("out once more", x.name(1, what, 7, false), 0);
      DUE.is("the neighbour stays", x.of(1, what == 0 ? 2 : 5), 64);
      DUE.is("the other set is empty", x.of(1, what == 0 ? 5 : 2), 0);
      DUE.is("the other house's is empty", x.of(0, what == 0 ? 2 : 5), 0);
    }
  }

  @Says("6: of a HOUSE .. BEYOND.")
  private static void nameOfFirstAndLastHouse() {
    for (int n = 1; n <= 8; n++) {
      StairRow x = Due.row(n, 0);
      DUE.range("LEAVE of " + n, 0, n - 1, h -> x.name(h, 0, 0, true));
      DUE.range("FOES of " + n, 0, n - 1, h -> x.name(h, 1, 0, false));
    }
  }

  // ---- 7: door

  @Says("7: A DOOR (0 to 13) .. BEYOND.")
  private static void doorFirstAndLast() {
    StairRow x = new StairRow();
    DUE.range("opens", 0, 13, d -> x.door(d, true));
    DUE.is("all are open", x.count(1), 14);
    DUE.range("shuts", 0, 13, d -> x.door(d, false));
    DUE.is("all are shut", x.count(1), 0);
  }

  @Says("7: is open, or shut: 1 if it was open, else 0.")
  private static void doorTellsWhetherItWas() {
    StairRow x = new StairRow();
    for (int d = 0; d < 14; d++) {
      DUE.is("shut at first", x.door(d, false), 0);
      DUE.is("opens", x.door(d, true), 0);
      DUE.is("opens again", x.door(d, true), 1);
      DUE.is("the only one", x.count(1), 1);
      DUE.is("shuts", x.door(d, false), 1);
      DUE.is("shuts again", x.door(d, false), 0);
    }
  }

  @Says("7: A DOOR is open also without any house by it")
  private static void doorOfNoHouses() {
    StairRow x = new StairRow();
    DUE.is("opens", x.door(13, true), 0);
    for (int h = 0; h < 8; h++) {
      x.house(0);
    }
    DUE.is("it is open", x.joined(15), 1 << 13);
  }

  // ---- 8, 9: lets, letting

  @Says("8: LETS: 1, 0. BEYOND.")
  private static void letsOfFirstAndLast() {
    for (int n = 1; n <= 8; n++) {
      StairRow x = Due.row(n, 0);
      int last = n - 1;
      DUE.range("house of " + n, 0, last, h -> x.lets(h, 0, 0));
      DUE.range("family of " + n, 0, last, f -> x.lets(0, f, 0));
      DUE.range("clock", 0, 23, c -> x.lets(last, last, c));
      DUE.is("the last one", x.lets(last, last, 23), 1);
      DUE.is("another one", x.lets(last, 0, 23), n == 1 ? 1 : 0);
    }
  }

  @Says("8: BEYOND (without houses)")
  private static void letsWithoutHouses() {
    StairRow x = new StairRow();
    DUE.is("lets(0, 0, 0)", x.lets(0, 0, 0), Due.BEYOND);
    DUE.is("lets(-1, -1, 0)", x.lets(-1, -1, 0), Due.BEYOND);
  }

  @Says("9: HOUSES that LET a FAMILY in at a CLOCK, as a set. BEYOND.")
  private static void lettingFromOneToAll() {
    for (int n = 1; n <= 8; n++) {
      StairRow x = Due.row(n, 0);
      int last = n - 1;
      DUE.range("family of " + n, 0, last, f -> x.letting(f, 0));
      DUE.range("clock", 0, 23, c -> x.letting(last, c));
      DUE.is("its own alone", x.letting(last, 12), 1 << last);
      for (int h = 0; h < n; h++) {
        x.change(h, 0, 3);
      }
      DUE.is("all", x.letting(last, 0), (1 << n) - 1);
    }
  }

  @Says("9: HOUSES that LET a FAMILY in at a CLOCK (each asks its own LEAVE and HOURS)")
  private static void lettingOfEachHouse() {
    for (int h = 0; h < 8; h++) {
      int f = h == 0 ? 7 : 0;
      StairRow x = Due.row(8, 0);
      DUE.is("its own alone", x.letting(f, 12), 1 << f);
      x.name(h, 0, f, true);
      DUE.is("and house " + h, x.letting(f, 12), 1 << f | 1 << h);
      DUE.is("at 22", x.letting(f, 22), 1 << f | 1 << h);
      DUE.is("at 23", x.letting(f, 23), 1 << f);
      x.name(h, 0, f, false);
      DUE.is("its own alone", x.letting(f, 12), 1 << f);
    }
  }

  @Says("9: BEYOND (without houses)")
  private static void lettingWithoutHouses() {
    DUE.is("letting(0, 0)", new StairRow().letting(0, 0), Due.BEYOND);
  }

  // ---- 10: joined

  @Says("10: ROOMS joined at once to a ROOM .. as a set. BEYOND.")
  private static void joinedOfFirstAndLastRoom() {
    for (int n = 1; n <= 8; n++) {
      StairRow x = Due.row(n, 0);
      DUE.range("room of " + n, 0, 2 * n - 1, room -> x.joined(room));
    }
    DUE.is("room 0 of no houses", new StairRow().joined(0), Due.BEYOND);
  }

  @Says("10: joined at once (not over another room)")
  private static void joinedAtOnce() {
    StairRow x = Due.row(4, 0);
    x.door(1, true);
    x.door(3, true);
    x.stair(1, 1);
    DUE.is("upper 0, by one door alone", x.joined(1), 1 << 3);
    DUE.is("upper 1, by both", x.joined(3), 1 << 1 | 1 << 5);
    DUE.is("upper 2, by a door and a stair", x.joined(5), 1 << 3 | 1 << 2);
    DUE.is("ground 1, by a stair", x.joined(2), 1 << 5);
    DUE.is("upper 3, by nothing", x.joined(7), 0);
  }

  @Says("10: by open DOORS and stairs (most of them)")
  private static void joinedToTheMost() {
    StairRow x = Due.row(8, 0);
    for (int d = 0; d < 14; d++) {
      x.door(d, true);
    }
    x.stair(3, 1);
    x.stair(5, 0);
    DUE.is("upper 4: two doors, two stairs", x.joined(9), 1 << 7 | 1 << 11 | 1 << 6 | 1 << 10);
    DUE.is("ground 3: two doors, a stair", x.joined(6), 1 << 4 | 1 << 8 | 1 << 9);
    DUE.is("ground 0: one door", x.joined(0), 1 << 2);
    DUE.is("upper 7: one door", x.joined(15), 1 << 13);
  }

  @Says("10: (whoever may)")
  private static void joinedWhoeverMay() {
    StairRow x = Due.row(2, 6);
    Due.foes(x, 0, 255);
    Due.foes(x, 1, 255);
    x.stair(0, 1);
    DUE.is("nobody is let in", x.joined(0), 1 << 3);
  }
}
