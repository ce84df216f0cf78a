/** The sentences of promises 11 to 18 that name a boundary case: ways, and who is cut off. */
public final class EdgesOfWaysTest {
  private static final Due DUE = new Due();
  private static final int ALL_CLOCKS = 0xffffff;

  public static void main(String[] args) {
    Sentences.run(EdgesOfWaysTest.class, DUE);
  }

  /** Eight houses that let all in; up from ground 1 to upper 0, on by doors to upper 7. */
  private static StairRow longest() {
    StairRow x = Due.openRow(8);
    x.stair(1, 0);
    for (int d = 1; d < 14; d += 2) {
      x.door(d, true);
    }
    return x;
  }

  /** House 1 open for all at these clocks alone, the only stair of three houses from its ground. */
  private static StairRow openAt(int from, int to) {
    StairRow x = Due.row(3, 2);
    x.stair(1, 0);
    for (int h = 0; h < 3; h++) {
      x.change(h, 3, from);
      x.change(h, 4, to);
    }
    return x;
  }

  // ---- 11: way

  @Says("11: The least LENGTH of a WAY (one room: a GROUND)")
  private static void wayOfOneRoom() {
    StairRow x = Due.openRow(8);
    for (int h = 0; h < 8; h++) {
      DUE.is("to ground " + h, x.way(7 - h, 2 * h, 0), 1);
    }
    x.stair(0, 1);
    x.door(0, true);
    DUE.is("a door there changes nothing", x.way(0, 2, 0), 1);
  }

  @Says("11: The least LENGTH of a WAY (the longest there is: nine rooms)")
  private static void wayOfNineRooms() {
    StairRow x = longest();
    for (int h = 0; h < 8; h++) {
      DUE.is("to upper " + h, x.way(3, 2 * h + 1, 0), 2 + h);
    }
    StairRow back = Due.openRow(8);
    back.stair(6, 1);
    for (int d = 1; d < 14; d += 2) {
      back.door(d, true);
    }
    for (int h = 0; h < 8; h++) {
      DUE.is("back to upper " + h, back.way(3, 2 * h + 1, 0), 9 - h);
    }
  }

  @Says("11: The least LENGTH (of two ways)")
  private static void wayTheLeastOfTwo() {
    StairRow x = longest();
    x.stair(6, 1);
    int[] due = {2, 3, 4, 5, 5, 4, 3, 2};
    for (int h = 0; h < 8; h++) {
      DUE.is("to upper " + h, x.way(0, 2 * h + 1, 0), due[h]);
    }
    x.name(4, 0, 0, false);
    DUE.is("the one is shut", x.way(0, 7, 0), 5);
    DUE.is("the other is shut", x.way(0, 11, 0), 4);
    DUE.is("between them", x.way(0, 9, 0), Due.NONE);
  }

  @Says("11: of a FAMILY at a CLOCK to a ROOM. BEYOND.")
  private static void wayBeyond() {
    for (int n = 1; n <= 8; n++) {
      StairRow x = Due.openRow(n);
      DUE.range("family of " + n, 0, n - 1, f -> x.way(f, 0, 0));
      DUE.range("room of " + n, 0, 2 * n - 1, room -> x.way(0, room, 0));
      DUE.range("clock", 0, 23, c -> x.way(0, 0, c));
    }
    DUE.is("without houses", new StairRow().way(0, 0, 0), Due.BEYOND);
  }

  @Says("11: NONE.")
  private static void wayNone() {
    StairRow x = Due.row(2, 0);
    x.stair(1, 0);
    DUE.is("no stair leads there", x.way(1, 3, 12), Due.NONE);
    DUE.is("not let in there", x.way(1, 1, 12), Due.NONE);
    DUE.is("not even into the ground", x.way(1, 0, 12), Due.NONE);
    DUE.is("not let in where the stair is", x.way(0, 1, 12), Due.NONE);
    x.name(1, 0, 0, true);
    DUE.is("now it is", x.way(0, 1, 12), 2);
    DUE.is("but not at 23", x.way(0, 1, 23), Due.NONE);
    DUE.is("but not at 5", x.way(0, 1, 5), Due.NONE);
  }

  @Says("11: BEYOND. NONE. (in this order)")
  private static void wayBeyondAheadOfNone() {
    StairRow x = Due.row(2, 0);
    DUE.is("NONE", x.way(0, 3, 0), Due.NONE);
    DUE.is("clock 24", x.way(0, 3, 24), Due.BEYOND);
    DUE.is("family 2", x.way(2, 3, 0), Due.BEYOND);
    DUE.is("room 4", x.way(0, 4, 0), Due.BEYOND);
    DUE.is("BEYOND three times", x.status(0), 3);
    DUE.is("NONE once", x.status(3), 1);
  }

  // ---- 12: noise

  @Says("12: The least NOISE of such a WAY (none at all)")
  private static void noiseOfNone() {
    StairRow x = longest();
    for (int h = 0; h < 8; h++) {
      DUE.is("to a ground", x.noise(0, 2 * h, 0), 0);
    }
    DUE.is("to the first upper", x.noise(0, 1, 0), 0);
    DUE.is("by day", x.noise(0, 15, 21), 0);
  }

  @Says("12: The least NOISE of such a WAY (the most)")
  private static void noiseOfTheMost() {
    StairRow x = longest();
    for (int h = 0; h < 8; h++) {
      x.change(h, 6, 9);
    }
    DUE.is("seven uppers, the last doesn't count", x.noise(0, 15, 22), 63);
    DUE.is("at 5", x.noise(0, 15, 5), 63);
    DUE.is("at 6", x.noise(0, 15, 6), 0);
    x.change(0, 0, 5);
    DUE.is("its own one is SICK", x.noise(0, 15, 22), 64);
    for (int h = 0; h < 8; h++) {
      x.change(h, 0, 5);
    }
    DUE.is("all are SICK, by day", x.noise(0, 15, 12), 7);
  }

  @Says("12: The least NOISE of such a WAY (of any LENGTH).")
  private static void noiseLongButStill() {
    StairRow x = longest();
    for (int h = 0; h < 7; h++) {
      x.change(h, 6, 0);
    }
    x.change(7, 6, 1);
    x.stair(6, 1);
    x.change(0, 7, 6);
    DUE.is("least LENGTH, by upper 7", x.way(0, 13, 0), 3);
    DUE.is("least NOISE, by uppers 0 to 5", x.noise(0, 13, 0), 0);
    x.change(3, 6, 2);
    DUE.is("now the short one is stiller", x.noise(0, 13, 0), 1);
    x.name(7, 0, 0, false);
    DUE.is("it isn't let in there", x.noise(0, 13, 0), 2);
  }

  @Says("12: BEYOND.")
  private static void noiseBeyond() {
    for (int n = 1; n <= 8; n++) {
      StairRow x = Due.openRow(n);
      DUE.range("family of " + n, 0, n - 1, f -> x.noise(f, 0, 0));
      DUE.range("room of " + n, 0, 2 * n - 1, room -> x.noise(0, room, 0));
      DUE.range("clock", 0, 23, c -> x.noise(0, 0, c));
    }
    DUE.is("without houses", new StairRow().noise(0, 0, 0), Due.BEYOND);
  }

  @Says("12: BEYOND. NONE. (in this order)")
  private static void noiseBeyondAheadOfNone() {
    StairRow x = Due.row(2, 0);
    DUE.is("no stair", x.noise(0, 1, 12), Due.NONE);
    DUE.is("not let in", x.noise(0, 2, 12), Due.NONE);
    DUE.is("clock 24", x.noise(0, 1, 24), Due.BEYOND);
    DUE.is("family 2", x.noise(2, 1, 0), Due.BEYOND);
    DUE.is("room 4", x.noise(0, 4, 0), Due.BEYOND);
    DUE.is("NONE twice", x.status(3), 2);
  }

  // ---- 13: step

  @Says("13: The i-th ROOM (i 0 to 15, 0 the first)")
  private static void stepOfTheLongest() {
    StairRow x = longest();
    DUE.is("0 the first", x.step(7, 0, 0), 2);
    for (int i = 1; i < 9; i++) {
      DUE.is("step " + i, x.step(7, 0, i), 2 * i - 1);
    }
    for (int i = 9; i < 16; i++) {
      DUE.is("step " + i, x.step(7, 0, i), Due.NONE);
    }
    DUE.range("i", 0, 15, i -> x.step(7, 0, i));
  }

  private static void steps(StairRow x, int family, int... rooms) {
    for (int i = 0; i < rooms.length; i++) {
      DUE.is("step " + i, x.step(family, 0, i), rooms[i]);
    }
    DUE.is("and no more", x.step(family, 0, rooms.length), Due.NONE);
  }

  @Says("13: of several the one that has the least number first")
  private static void stepLeastFirst() {
    StairRow x = Due.openRow(8);
    x.stair(2, 1);
    x.stair(4, 0);
    steps(x, 3, 4, 7);
    x.name(2, 0, 3, false);
    steps(x, 3, 8, 7);
  }

  @Says("13: .. then next, and so on")
  private static void stepTheWholeWay() {
    // A shortest WAY goes up at once and then along the uppers: its first ROOM tells all others.
    StairRow x = Due.openRow(8);
    x.stair(1, 1);
    x.stair(4, 1);
    x.door(5, true);
    x.door(7, true);
    x.door(9, true);
    steps(x, 3, 2, 5, 7);
    x.name(1, 0, 3, false);
    steps(x, 3, 8, 11, 9, 7);
    x.stair(4, -1);
    x.stair(5, 0);
    x.stair(1, 1);
    x.name(1, 0, 3, true);
    steps(x, 3, 2, 5, 7);
    StairRow y = Due.openRow(8);
    y.stair(3, 1);
    y.stair(6, 0);
    y.door(9, true);
    y.stair(1, 1);
    y.door(5, true);
    y.door(7, true);
    steps(y, 5, 12, 11);
    y.name(6, 0, 5, false);
    steps(y, 5, 6, 9, 11);
    y.name(3, 0, 5, false);
    steps(y, 5, Due.NONE);
  }

  @Says("13: of the WAY HOME of least LENGTH at a CLOCK")
  private static void stepOfLeastLengthFirst() {
    StairRow x = Due.openRow(8);
    x.stair(0, 1);
    x.door(3, true);
    x.stair(3, 0);
    DUE.is("the short one, though 6 is above 0", x.step(2, 0, 0), 6);
    DUE.is("then home", x.step(2, 0, 1), 5);
    DUE.is("and no more", x.step(2, 0, 2), Due.NONE);
    x.change(3, 3, 6);
    DUE.is("at 5 the long one", x.step(2, 5, 0), 0);
    DUE.is("at 5, its last", x.step(2, 5, 2), 5);
    DUE.is("at 6 the short one", x.step(2, 6, 0), 6);
  }

  @Says("13: BEYOND.")
  private static void stepBeyond() {
    for (int n = 1; n <= 8; n++) {
      StairRow x = Due.openRow(n);
      DUE.range("family of " + n, 0, n - 1, f -> x.step(f, 0, 0));
      DUE.range("clock", 0, 23, c -> x.step(0, c, 0));
      DUE.range("i", 0, 15, i -> x.step(0, 0, i));
    }
    DUE.is("without houses", new StairRow().step(0, 0, 0), Due.BEYOND);
  }

  @Says("13: NONE (a house on it gives no leave)")
  private static void stepOnlyByLeave() {
    StairRow x = Due.openRow(3);
    x.stair(0, 1);
    x.door(3, true);
    x.name(0, 0, 2, false);
    DUE.is("not by house 0", x.step(2, 0, 0), Due.NONE);
    x.name(0, 0, 2, true);
    x.name(1, 0, 2, false);
    DUE.is("not by house 1", x.step(2, 0, 0), Due.NONE);
    x.name(1, 0, 2, true);
    steps(x, 2, 0, 3, 5);
  }

  @Says("13: NONE: there is no such one.")
  private static void stepNone() {
    StairRow x = Due.openRow(2);
    x.stair(0, 1);
    DUE.is("the last", x.step(1, 0, 1), 3);
    DUE.is("behind the last", x.step(1, 0, 2), Due.NONE);
    for (int i = 0; i < 16; i++) {
      DUE.is("no way home, step " + i, x.step(0, 0, i), Due.NONE);
    }
    DUE.is("i 16 goes ahead", x.step(0, 0, 16), Due.BEYOND);
    DUE.is("clock 24 goes ahead", x.step(0, 24, 9), Due.BEYOND);
    DUE.is("family 2 goes ahead", x.step(2, 0, 9), Due.BEYOND);
  }

  // ---- 14: reach

  @Says("14: ROOMS to which a FAMILY has a WAY (its own ground alone)")
  private static void reachLeast() {
    for (int f = 0; f < 8; f++) {
      DUE.is("family " + f, Due.row(8, 0).reach(f, 12), 1 << (2 * f));
    }
  }

  @Says("14: ROOMS to which a FAMILY has a WAY (all of them)")
  private static void reachAll() {
    for (int f = 0; f < 8; f++) {
      DUE.is("family " + f, longest().reach(f, 0), 0xffff);
    }
    StairRow x = Due.openRow(8);
    x.stair(6, 1);
    for (int d = 1; d < 14; d += 2) {
      x.door(d, true);
    }
    DUE.is("from the other end", x.reach(0, 23), 0xffff);
    x.door(1, false);
    DUE.is("but one", x.reach(0, 23), 0xffff - 2);
    x.name(7, 0, 0, false);
    DUE.is("the grounds of the others", x.reach(0, 23), 0x5555 - (1 << 14));
  }

  @Says("14: ROOMS to which a FAMILY has a WAY (up by the first and by the last stair)")
  private static void reachByEachStair() {
    for (int h = 0; h < 8; h++) {
      StairRow x = Due.openRow(8);
      int to = h == 7 ? 6 : h + 1;
      x.stair(h, h == 7 ? 0 : 1);
      DUE.is("by ground " + h, x.reach(3, 0), 0x5555 | 1 << (2 * to + 1));
      int f = h == 3 ? 0 : 3;
      x.name(h, 0, f, false);
      DUE.is("house " + h + " is shut", x.reach(f, 0), 0x5555 - (1 << (2 * h)));
    }
  }

  @Says("14: BEYOND.")
  private static void reachBeyond() {
    for (int n = 1; n <= 8; n++) {
      StairRow x = Due.openRow(n);
      DUE.range("family of " + n, 0, n - 1, f -> x.reach(f, 0));
      DUE.range("clock", 0, 23, c -> x.reach(0, c));
    }
    DUE.is("without houses", new StairRow().reach(0, 0), Due.BEYOND);
  }

  // ---- 15: off

  @Says("15: FAMILIES that are CUT OFF at a CLOCK, as a set (nobody, all)")
  private static void offNobodyAndAll() {
    DUE.is("no houses", new StairRow().off(0), 0);
    DUE.is("nobody", longest().off(0), 0);
    for (int n = 1; n <= 8; n++) {
      DUE.is("all of " + n, Due.openRow(n).off(0), (1 << n) - 1);
    }
    StairRow x = longest();
    x.door(13, false);
    DUE.is("the last", x.off(23), 128);
    x = longest();
    x.door(1, false);
    DUE.is("all but the first", x.off(23), 254);
  }

  @Says("15: BEYOND.")
  private static void offBeyond() {
    StairRow x = Due.openRow(2);
    DUE.range("clock", 0, 23, c -> x.off(c));
    StairRow none = new StairRow();
    DUE.range("clock, no houses", 0, 23, c -> none.off(c));
  }

  // ---- 16, 17, 18: hours, latest, best

  @Says("16: CLOCKS at which a FAMILY is CUT OFF, as a set (none, one, all)")
  private static void hoursNoneOneAll() {
    DUE.is("none", openAt(0, 23).hours(0), 0);
    DUE.is("all", openAt(0, 23).hours(1), ALL_CLOCKS);
    DUE.is("23 alone", openAt(0, 22).hours(0), 1 << 23);
    DUE.is("0 alone", openAt(1, 23).hours(0), 1);
    DUE.is("all but 0", openAt(0, 0).hours(0), ALL_CLOCKS - 1);
    DUE.is("all but 23", openAt(23, 23).hours(0), ALL_CLOCKS >> 1);
    DUE.is("round over 0", openAt(23, 0).hours(0), ALL_CLOCKS - 1 - (1 << 23));
    DUE.is("round over 0, but one", openAt(13, 11).hours(0), 1 << 12);
  }

  @Says("16, 17, 18: CUT OFF (a house on the way gives no leave)")
  private static void clocksOnlyByLeave() {
    StairRow x = Due.openRow(3);
    x.stair(0, 1);
    x.door(3, true);
    for (int h = 0; h < 2; h++) {
      x.name(h, 0, 2, false);
      DUE.is("hours, not by house " + h, x.hours(2), ALL_CLOCKS);
      DUE.is("latest", x.latest(2), Due.NONE);
      DUE.is("best", x.best(2), Due.NONE);
      x.name(h, 0, 2, true);
      DUE.is("hours, by house " + h, x.hours(2), 0);
      DUE.is("latest", x.latest(2), 23);
      DUE.is("best", x.best(2), 0);
    }
  }

  @Says("17: The latest CLOCK (0 to 23) at which it isn't CUT OFF.")
  private static void latestFirstAndLast() {
    DUE.is("always", openAt(0, 23).latest(0), 23);
    DUE.is("23 alone", openAt(23, 23).latest(0), 23);
    DUE.is("0 alone", openAt(0, 0).latest(0), 0);
    DUE.is("1 to 22", openAt(1, 22).latest(0), 22);
    DUE.is("round over 0", openAt(22, 0).latest(0), 23);
    DUE.is("round over 0, but 23", openAt(0, 22).latest(0), 22);
  }

  @Says("17: NONE.")
  private static void latestNone() {
    StairRow x = openAt(0, 23);
    DUE.is("no stair leads there", x.latest(1), Due.NONE);
    DUE.is("nor there", x.latest(2), Due.NONE);
    x.change(2, 7, 0);
    DUE.is("another bed", x.latest(2), 23);
  }

  @Says("18: The CLOCK of all with the least LENGTH of its WAY HOME.")
  private static void bestFirstAndLast() {
    DUE.is("all are even: the first", openAt(0, 23).best(0), 0);
    DUE.is("23 alone", openAt(23, 23).best(0), 23);
    DUE.is("22 and 23", openAt(22, 23).best(0), 22);
    DUE.is("round over 0", openAt(23, 1).best(0), 0);
    // Longer at all clocks, shorter at 23 alone.
    StairRow x = longest();
    x.stair(6, 1);
    x.change(6, 3, 23);
    x.change(6, 4, 23);
    x.change(0, 7, 7);
    DUE.is("shorter at 23 alone", x.best(0), 23);
    DUE.is("the last two rooms", x.way(0, 15, 23), 2);
    DUE.is("else none", x.way(0, 15, 22), Due.NONE);
  }

  @Says("18: The CLOCK .. with the least LENGTH (of several lengths)")
  private static void bestOfSeveralLengths() {
    StairRow x = longest();
    x.stair(3, 0);
    x.change(3, 3, 5);
    x.change(3, 4, 9);
    // To upper 2: 4 rooms by uppers 0 and 1 at any clock, 2 by ground 3 from 5 to 9.
    DUE.is("at 4", x.way(2, 5, 4), 4);
    DUE.is("at 5", x.way(2, 5, 5), 2);
    DUE.is("at 10", x.way(2, 5, 10), 4);
    DUE.is("best", x.best(2), 5);
    x.change(3, 4, 3);
    DUE.is("best, round over 0", x.best(2), 0);
    DUE.is("latest is another", x.latest(2), 23);
  }

  @Says("18: NONE.")
  private static void bestNone() {
    StairRow x = openAt(0, 23);
    DUE.is("no stair leads there", x.best(1), Due.NONE);
    x.change(1, 7, 0);
    DUE.is("another bed", x.best(1), 0);
  }

  @Says("16, 17, 18: BEYOND. (ahead of NONE)")
  private static void clocksBeyond() {
    for (int n = 1; n <= 8; n++) {
      StairRow x = Due.openRow(n);
      DUE.range("hours of " + n, 0, n - 1, f -> x.hours(f));
      DUE.range("latest of " + n, 0, n - 1, f -> x.latest(f));
      DUE.range("best of " + n, 0, n - 1, f -> x.best(f));
    }
    StairRow none = new StairRow();
    DUE.is("hours without houses", none.hours(0), Due.BEYOND);
    DUE.is("latest without houses", none.latest(0), Due.BEYOND);
    DUE.is("best without houses", none.best(0), Due.BEYOND);
  }
}
