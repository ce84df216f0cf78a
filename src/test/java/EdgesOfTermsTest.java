/** The sentences under 'Terms' that name a boundary case, but for those about texts. */
public final class EdgesOfTermsTest {
  private static final Due DUE = new Due();
  private static final int ALL_CLOCKS = 0xffffff;

  public static void main(String[] args) {
    Sentences.run(EdgesOfTermsTest.class, DUE);
  }

  /** The clocks at which house 0 lets family 1 in. */
  private static int letsAt(StairRow x) {
    int set = 0;
    for (int clock = 0; clock < 24; clock++) {
      set |= x.lets(0, 1, clock) << clock;
    }
    return set;
  }

  private static int span(int from, int to) {
    int set = 0;
    for (int clock = from; clock <= to; clock++) {
      set |= 1 << clock;
    }
    return set;
  }

  /** Houses 0 and 1 of a kind; 0 has 1 in its LEAVE, and these hours. */
  private static StairRow two(int kind, int from, int to) {
    StairRow x = Due.row(2, kind);
    x.name(0, 0, 1, true);
    x.change(0, 3, from);
    x.change(0, 4, to);
    return x;
  }

  // ---- findings

  @Says("Terms: LOW is -1000001; LOW BEYOND, LOW - 1 FULL, .. LOW - 6 SIZE")
  private static void findingsByTheirNumbers() {
    StairRow x = Due.row(8, 0);
    DUE.is("house(7)", x.house(7), -1000001);
    DUE.is("house(0), a ninth one", x.house(0), -1000002);
    x.hold(0, 0);
    DUE.is("as(0, 1)", x.as(0, 1), -1000003);
    DUE.is("undo()", x.undo(), -1000004);
    DUE.is("gossip(1) without houses", new StairRow().gossip(1), -1000005);
    DUE.is("load(0)", x.load(0), -1000006);
    DUE.is("sheet(0, 8, -1)", x.sheet(0, 8, -1), -1000007);
  }

  @Says("Terms: What seed() and count(5) tell, z, may be any int: that is no finding.")
  private static void zIsNoFinding() {
    StairRow x = new StairRow();
    int z = 1;
    for (int v : new int[] {-1000000, -1000001, -1000002, -1000003, -1000004, -1000005, -1000006,
        -1000007, -1000008, Integer.MIN_VALUE, Integer.MAX_VALUE, -1, 0}) {
      DUE.is("seed(" + v + ")", x.seed(v), z);
      DUE.is("count(5)", x.count(5), v);
      z = v;
    }
    for (int which = -1; which < 7; which++) {
      DUE.is("status(" + which + ")", x.status(which), 0);
    }
  }

  @Says("Terms: Sets are told as bits")
  private static void setsReachTheirLastMember() {
    StairRow x = Due.openRow(8);
    x.stair(7, 0);
    x.door(13, true);
    x.name(7, 1, 7, true);
    DUE.is("LEAVE of all eight", x.of(7, 2), 255);
    DUE.is("FOES 7 alone", x.of(7, 5), 128);
    DUE.is("letting all eight", x.letting(0, 23), 255);
    DUE.is("joined to room 13", x.joined(13), 1 << 14 | 1 << 15);
    DUE.is("reach room 15", x.reach(0, 23), 0x5555 | 1 << 13 | 1 << 15);
    DUE.is("off without 6 and 7", x.off(23), 255 - 64 - 128);
    DUE.is("hours, all 24", x.hours(0), ALL_CLOCKS);
    DUE.is("beds of 7", x.beds(7), 128);
  }

  @Says("Terms: of several that would do the least number counts, where nothing else is told.")
  private static void leastOfSeveral() {
    StairRow x = Due.openRow(3);
    x.stair(0, 1);
    x.stair(2, 0);
    DUE.is("step's ground", x.step(1, 0, 0), 0);
    DUE.is("best clock", x.best(1), 0);
    Due.leave(x, 0, 0);
    Due.leave(x, 2, 0);
    DUE.is("needs", x.needs(1, 0), 1);
    StairRow alone = Due.row(2, 0);
    DUE.is("open", alone.open(0), 0);
    alone.door(0, true);
    DUE.is("open, 0 is open", alone.open(0), 1);
  }

  // ---- houses

  @Says("Terms: HOUSES 0, 1, .. (at most 8) in a row")
  private static void atMostEightHouses() {
    StairRow x = new StairRow();
    for (int h = 0; h < 8; h++) {
      DUE.is("house(0)", x.house(0), h);
    }
    DUE.is("a ninth", x.house(0), Due.FULL);
    DUE.is("count(0)", x.count(0), 8);
  }

  @Says("Terms: HOUSE h has ROOM 2 h (GROUND) and ROOM 2 h + 1 (UPPER)")
  private static void firstAndLastRooms() {
    for (int n = 1; n <= 8; n++) {
      StairRow x = Due.openRow(n);
      DUE.range("way of " + n + " houses", 0, 2 * n - 1, room -> x.way(0, room, 0));
      DUE.is("its last ground", x.way(0, 2 * n - 2, 0), 1);
      DUE.is("its last upper", x.way(0, 2 * n - 1, 0), Due.NONE);
    }
  }

  @Says("Terms: whose BED is a HOUSE (h at first: it sleeps in that one's UPPER ROOM)")
  private static void bedAtFirst() {
    StairRow x = Due.row(8, 4);
    for (int h = 0; h < 8; h++) {
      DUE.is("of(" + h + ", 7)", x.of(h, 7), h);
      DUE.is("beds(" + h + ")", x.beds(h), 1 << h);
    }
  }

  @Says("Terms: STAIR: the HOUSE beside it (h - 1 or h + 1) .. or none (-1, at first)")
  private static void stairAtFirstAndBeside() {
    StairRow x = Due.row(8, 0);
    for (int h = 0; h < 8; h++) {
      DUE.is("none at first", x.of(h, 1), -1);
      DUE.is("left of " + h, x.stair(h, 0), h == 0 ? Due.BEYOND : -1);
      DUE.is("its number", x.of(h, 1), h - 1);
      DUE.is("right of " + h, x.stair(h, 1), h == 7 ? Due.BEYOND : h - 1);
      DUE.is("its number", x.of(h, 1), h == 7 ? 6 : h + 1);
    }
  }

  @Says("Terms: LEAVE: a set of FAMILIES (none at first) .. FOES: a set of FAMILIES (none at first)")
  private static void setsAtFirst() {
    for (int kind = 0; kind < 7; kind++) {
      StairRow x = Due.row(2, kind);
      DUE.is("LEAVE of kind " + kind, x.of(1, 2), 0);
      DUE.is("FOES of kind " + kind, x.of(1, 5), 0);
    }
  }

  @Says("Terms: FROM and TO: CLOCKS 0 to 23 (6 and 22 at first)")
  private static void hoursAtFirst() {
    StairRow x = two(0, 6, 22);
    StairRow y = Due.row(2, 0);
    y.name(0, 0, 1, true);
    DUE.is("FROM", y.of(0, 3), 6);
    DUE.is("TO", y.of(0, 4), 22);
    DUE.is("both as told", letsAt(y), letsAt(x));
    DUE.is("at these clocks", letsAt(y), span(6, 22));
    DUE.range("FROM", 0, 23, v -> y.change(0, 3, v));
    DUE.range("TO", 0, 23, v -> y.change(0, 4, v));
  }

  @Says("Terms: SLEEPERS 0 to 9 (2 at first) in its UPPER ROOM")
  private static void sleepersAtFirst() {
    StairRow x = Due.row(1, 3);
    DUE.is("at first", x.of(0, 6), 2);
    DUE.is("of all", x.count(3), 2);
    DUE.range("SLEEPERS", 0, 9, v -> x.change(0, 6, v));
    DUE.is("the most", x.of(0, 6), 9);
  }

  @Says("Terms: of KINDS: 0 HOUSE; 1 STRICT, 2 OPEN, 5 SICK .. 3 INN .. 4 GUARD, 6 QUARREL")
  private static void kindsFirstAndLast() {
    DUE.range("house", 0, 6, kind -> new StairRow().house(kind));
    DUE.range("KIND", 0, 6, kind -> Due.row(1, 0).change(0, 0, kind));
    StairRow held = Due.row(1, 3);
    held.hold(0, 0);
    DUE.range("as", 0, 6, kind -> held.as(0, kind));
  }

  // ---- doors

  @Says("Terms: DOORS: between the GROUND of h and of h + 1 (number 2 h), between the UPPER of both")
  private static void eachDoorJoinsItsTwo() {
    for (int d = 0; d < 14; d++) {
      StairRow x = Due.row(8, 0);
      x.door(d, true);
      for (int room = 0; room < 16; room++) {
        int due = room == d ? 1 << (d + 2) : room == d + 2 ? 1 << d : 0;
        DUE.is("door " + d + ", joined to " + room, x.joined(room), due);
      }
    }
  }

  @Says("Terms: open, or shut (at first)")
  private static void doorsShutAtFirst() {
    StairRow x = Due.row(8, 0);
    DUE.is("count(1)", x.count(1), 0);
    for (int room = 0; room < 16; room++) {
      DUE.is("joined(" + room + ")", x.joined(room), 0);
    }
    DUE.range("door", 0, 13, d -> x.door(d, true));
    DUE.is("all are open", x.count(1), 14);
  }

  // ---- who lets whom in

  @Says("Terms: LETS (a HOUSE a FAMILY at a CLOCK c into its ROOMS; its own one always)")
  private static void itsOwnOneAlways() {
    for (int kind = 0; kind < 7; kind++) {
      StairRow x = Due.row(2, kind);
      x.change(1, 3, 3);
      x.change(1, 4, 3);
      x.name(1, 1, 1, true);
      for (int clock = 0; clock < 24; clock++) {
        DUE.is("kind " + kind + " at " + clock, x.lets(1, 1, clock), 1);
        DUE.is("letting, too", x.letting(1, clock) >> 1, 1);
      }
    }
  }

  @Says("Terms: c is in HOURS: FROM to TO, both too")
  private static void hoursHaveBothEnds() {
    for (int kind : new int[] {0, 2}) {
      for (int from = 0; from < 24; from++) {
        for (int to = from; to < 24; to++) {
          DUE.is("kind " + kind + " from " + from + " to " + to, letsAt(two(kind, from, to)),
              span(from, to));
        }
      }
    }
  }

  @Says("Terms: round over 0 if FROM is above TO")
  private static void hoursRoundOverZero() {
    for (int kind : new int[] {0, 2}) {
      for (int from = 1; from < 24; from++) {
        for (int to = 0; to < from; to++) {
          DUE.is("kind " + kind + " from " + from + " to " + to, letsAt(two(kind, from, to)),
              span(from, 23) | span(0, to));
        }
      }
    }
  }

  @Says("Terms: HOUSE: if it is in LEAVE, and c is in HOURS")
  private static void houseAsksBoth() {
    StairRow x = two(0, 0, 23);
    DUE.is("both", letsAt(x), ALL_CLOCKS);
    x.name(0, 1, 1, true);
    DUE.is("a foe of a HOUSE", letsAt(x), ALL_CLOCKS);
    x.name(0, 0, 1, false);
    DUE.is("not in LEAVE", letsAt(x), 0);
  }

  @Says("Terms: STRICT: as a HOUSE, and c is below 20.")
  private static void strictUntilTwenty() {
    DUE.is("all hours", letsAt(two(1, 0, 23)), span(0, 19));
    DUE.is("to 19", letsAt(two(1, 19, 19)), 1 << 19);
    DUE.is("from 20", letsAt(two(1, 20, 20)), 0);
    DUE.is("round", letsAt(two(1, 19, 2)), 1 << 19 | span(0, 2));
    StairRow x = two(1, 0, 23);
    x.name(0, 0, 1, false);
    DUE.is("no LEAVE", letsAt(x), 0);
  }

  @Says("Terms: OPEN: c is in HOURS.")
  private static void openAsksHoursAlone() {
    StairRow x = two(2, 21, 1);
    x.name(0, 0, 1, false);
    x.name(0, 1, 1, true);
    DUE.is("no LEAVE, a foe", letsAt(x), span(21, 23) | span(0, 1));
  }

  @Says("Terms: INN: always.")
  private static void innAlways() {
    StairRow x = two(3, 12, 12);
    x.name(0, 0, 1, false);
    x.name(0, 1, 1, true);
    DUE.is("no LEAVE, a foe, out of hours", letsAt(x), ALL_CLOCKS);
  }

  @Says("Terms: SICK: as a HOUSE, but not at c of 20 or more, nor below 7.")
  private static void sickFromSevenToNineteen() {
    DUE.is("all hours", letsAt(two(5, 0, 23)), span(7, 19));
    DUE.is("6 alone", letsAt(two(5, 6, 6)), 0);
    DUE.is("7 alone", letsAt(two(5, 7, 7)), 1 << 7);
    DUE.is("19 alone", letsAt(two(5, 19, 19)), 1 << 19);
    DUE.is("20 alone", letsAt(two(5, 20, 20)), 0);
    DUE.is("round", letsAt(two(5, 19, 7)), 1 << 19 | 1 << 7);
    StairRow x = two(5, 0, 23);
    x.name(0, 0, 1, false);
    DUE.is("no LEAVE", letsAt(x), 0);
  }

  @Says("Terms: GUARD: as a STRICT one, or c is 12.")
  private static void guardAtTwelve() {
    StairRow x = two(4, 0, 23);
    DUE.is("as a STRICT one", letsAt(x), span(0, 19));
    x.name(0, 0, 1, false);
    DUE.is("no LEAVE", letsAt(x), 1 << 12);
    DUE.is("out of hours", letsAt(two(4, 13, 11)), span(0, 19));
    DUE.is("out of hours", letsAt(two(4, 13, 10)), span(0, 10) | span(12, 19));
    DUE.is("from 20", letsAt(two(4, 20, 23)), 1 << 12);
  }

  @Says("Terms: QUARREL: as a STRICT one, and it isn't in FOES.")
  private static void quarrelAsksFoes() {
    StairRow x = two(6, 0, 23);
    DUE.is("no foe", letsAt(x), span(0, 19));
    x.name(0, 1, 0, true);
    x.name(0, 1, 2, true);
    DUE.is("others are foes", letsAt(x), span(0, 19));
    x.name(0, 1, 1, true);
    DUE.is("a foe in LEAVE", letsAt(x), 0);
    x.name(0, 1, 1, false);
    x.name(0, 0, 1, false);
    DUE.is("no foe, no LEAVE", letsAt(x), 0);
  }

  @Says("Terms: (Others as the KIND above.)")
  private static void foesOfOtherKindsAreLetIn() {
    int[] due = {ALL_CLOCKS, span(0, 19), ALL_CLOCKS, ALL_CLOCKS, span(0, 19), span(7, 19), 0};
    for (int kind = 0; kind < 7; kind++) {
      StairRow x = two(kind, 0, 23);
      x.name(0, 1, 1, true);
      DUE.is("a foe of kind " + kind, letsAt(x), due[kind]);
    }
  }

  // ---- who wakes

  /** The clocks at which it wakes so many if family 1 goes through the upper room of its house. */
  private static int wakesAt(int kind, int sleepers, int many) {
    StairRow x = Due.openRow(3);
    x.change(1, 0, kind);
    x.change(1, 6, sleepers);
    x.stair(0, 1);
    x.door(3, true);
    int set = 0;
    for (int clock = 0; clock < 24; clock++) {
      set |= (x.noise(1, 5, clock) == many ? 1 : 0) << clock;
    }
    return set;
  }

  @Says("Terms: WAKES: HOUSE: SLEEPERS at c of 22 or more, or below 6, else 0.")
  private static void wakesByNight() {
    int night = span(22, 23) | span(0, 5);
    for (int kind : new int[] {0, 1, 2, 4, 6}) {
      DUE.is("kind " + kind + " wakes 9", wakesAt(kind, 9, 9), night);
      DUE.is("kind " + kind + " wakes 0", wakesAt(kind, 9, 0), span(6, 21));
      DUE.is("kind " + kind + " without sleepers", wakesAt(kind, 0, 0), ALL_CLOCKS);
    }
  }

  @Says("Terms: SICK: as a HOUSE, and 1.")
  private static void sickWakesOneMore() {
    DUE.is("by night", wakesAt(5, 9, 10), span(22, 23) | span(0, 5));
    DUE.is("by day", wakesAt(5, 9, 1), span(6, 21));
    DUE.is("without sleepers", wakesAt(5, 0, 1), ALL_CLOCKS);
  }

  @Says("Terms: INN: 0. (WAKES)")
  private static void innWakesNobody() {
    DUE.is("9 sleepers", wakesAt(3, 9, 0), ALL_CLOCKS);
  }

  // ---- ways

  @Says("Terms: the first ROOM is any GROUND")
  private static void beginsAtAnyGround() {
    StairRow x = Due.openRow(8);
    for (int h = 0; h < 8; h++) {
      DUE.is("to ground " + h, x.way(0, 2 * h, 0), 1);
      DUE.is("to upper " + h, x.way(0, 2 * h + 1, 0), Due.NONE);
    }
    x.stair(7, 0);
    DUE.is("begins at the last one", x.step(6, 0, 0), 14);
  }

  @Says("Terms: by a stair (up or down: GROUND of h, UPPER of its STAIR)")
  private static void stairsUpAndDown() {
    StairRow x = Due.openRow(3);
    x.stair(0, 1);
    x.stair(2, 0);
    x.sheet(0, 8, 4);
    int[] rooms = {0, 3, 4, 3};
    for (int i = 0; i < 4; i++) {
      x.write(0, i, rooms[i]);
    }
    DUE.is("up, down and up", x.judge(0, 1, 0), 0);
    DUE.is("no stair within a house", x.way(0, 1, 0), Due.NONE);
  }

  @Says("Terms: all ROOMS let f in at that CLOCK")
  private static void firstMiddleAndLastLetIn() {
    for (int shut = 0; shut < 3; shut++) {
      StairRow x = Due.openRow(4);
      x.stair(0, 1);
      x.door(3, true);
      DUE.is("all let in", x.way(3, 5, 12), 3);
      x.name(shut, 0, 3, false);
      DUE.is("house " + shut + " doesn't", x.way(3, 5, 12), Due.NONE);
      DUE.is("nor any noise", x.noise(3, 5, 12), Due.NONE);
    }
  }

  @Says("Terms: Its NOISE: WAKES of all HOUSES whose UPPER ROOM is on it, but the last ROOM of it.")
  private static void groundsAndTheLastWakeNobody() {
    StairRow x = Due.openRow(3);
    for (int h = 0; h < 3; h++) {
      x.change(h, 6, 1 << h);
    }
    x.door(0, true);
    x.stair(0, 1);
    x.door(3, true);
    DUE.is("a ground", x.noise(0, 2, 0), 0);
    DUE.is("one upper, the last", x.noise(0, 3, 0), 0);
    DUE.is("two uppers", x.noise(0, 5, 0), 2);
  }

  @Says("Terms: HOME: the UPPER ROOM of f's BED.")
  private static void homeIsByTheBed() {
    StairRow x = Due.openRow(8);
    x.stair(6, 1);
    x.change(0, 7, 7);
    DUE.is("its last room", x.step(0, 0, 1), 15);
    DUE.is("the one who lives there", x.step(7, 0, 1), 15);
    x.change(7, 7, 0);
    DUE.is("and sleeps elsewhere", x.step(7, 0, 0), Due.NONE);
  }

  @Says("Terms: CUT OFF at a CLOCK is a FAMILY that has no WAY HOME.")
  private static void cutOffWithoutAWay() {
    StairRow x = Due.row(2, 0);
    x.stair(0, 1);
    x.name(0, 0, 1, true);
    DUE.is("in hours", x.off(22), 1);
    DUE.is("out of hours", x.off(23), 3);
  }

  @Says("Terms: DRAWS: z is told (1 at first); each makes it z * 1103515245 + 12345 (an int)")
  private static void drawsWrap() {
    for (int z : new int[] {1, 0, -1, Integer.MIN_VALUE, Integer.MAX_VALUE, -1000001}) {
      StairRow x = Due.row(8, 0);
      if (z != 1) {
        x.seed(z);
      }
      x.gossip(1);
      long first = (z * 1103515245L + 12345L) & 0xffffffffL;
      long second = (first * 1103515245L + 12345L) & 0xffffffffL;
      DUE.is("z behind two draws from " + z, x.count(5), (int) second);
      int family = (int) (first / 256 % 8);
      int house = (int) (second / 256 % 8);
      DUE.is("z >>> 8, without a sign", x.of(house, 2), 1 << family);
    }
  }

  // ---- what isn't there

  @Says("Terms: STAIRS and DOORS to HOUSES that there aren't lead nowhere.")
  private static void toHousesThatArentThere() {
    StairRow x = Due.openRow(2);
    x.stair(1, 1);
    x.door(2, true);
    x.door(3, true);
    x.door(13, true);
    DUE.is("joined, ground", x.joined(2), 0);
    DUE.is("joined, upper", x.joined(3), 0);
    DUE.is("reach", x.reach(0, 0), 1 | 4);
    DUE.is("off", x.off(0), 3);
    DUE.is("fire", x.fire(), Due.NONE);
    DUE.is("the stair counts", x.count(2), 1);
    DUE.is("the doors count", x.count(1), 3);
    Due.leave(x, x.house(0), 255);
    DUE.is("a new house: joined, ground", x.joined(2), 1 << 4 | 1 << 5);
    DUE.is("joined, upper", x.joined(3), 1 << 5);
    DUE.is("reach", x.reach(0, 12), 1 | 4 | 16 | 32 | 8);
  }

  @Says("Terms: A FAMILY in acts is that of a HOUSE there is")
  private static void familiesAreOfHousesThereAre() {
    for (int n = 1; n <= 8; n++) {
      StairRow x = Due.openRow(n);
      x.sheet(0, 8, 0);
      String of = " of " + n;
      DUE.range("lets" + of, 0, n - 1, f -> x.lets(0, f, 0));
      DUE.range("letting" + of, 0, n - 1, f -> x.letting(f, 0));
      DUE.range("way" + of, 0, n - 1, f -> x.way(f, 0, 0));
      DUE.range("noise" + of, 0, n - 1, f -> x.noise(f, 0, 0));
      DUE.range("step" + of, 0, n - 1, f -> x.step(f, 0, 0));
      DUE.range("reach" + of, 0, n - 1, f -> x.reach(f, 0));
      DUE.range("hours" + of, 0, n - 1, f -> x.hours(f));
      DUE.range("latest" + of, 0, n - 1, f -> x.latest(f));
      DUE.range("best" + of, 0, n - 1, f -> x.best(f));
      DUE.range("helps" + of, 0, n - 1, f -> x.helps(f, 0));
      DUE.range("needs" + of, 0, n - 1, f -> x.needs(f, 0));
      DUE.range("share" + of, 0, n - 1, f -> x.share(0, f, 0, 0));
      DUE.range("judge" + of, 0, n - 1, f -> x.judge(0, f, 0));
    }
  }

  @Says("Terms: (but in name())")
  private static void namesMayBeOfNoHouse() {
    StairRow x = Due.row(1, 0);
    DUE.range("LEAVE", 0, 7, f -> x.name(0, 0, f, true));
    DUE.range("FOES", 0, 7, f -> x.name(0, 1, f, true));
    DUE.is("all in LEAVE", x.of(0, 2), 255);
    DUE.is("all in FOES", x.of(0, 5), 255);
    DUE.is("but they aren't there", x.lets(0, 1, 12), Due.BEYOND);
  }

  // ---- spots, sheets

  @Says("Terms: SPOTS 0 to 9 hold a HOUSE or nothing (at first).")
  private static void spotsFirstAndLast() {
    StairRow x = Due.row(1, 0);
    for (int spot = 0; spot < 10; spot++) {
      DUE.is("nothing in " + spot, x.as(spot, 0), Due.MISSING);
    }
    DUE.range("hold", 0, 9, spot -> x.hold(spot, 0));
    DUE.range("as", 0, 9, spot -> x.as(spot, 0));
    DUE.is("all ten hold one", x.count(6), 10);
  }

  @Says("Terms: SHEETS 0 to 3 .. or MISSING (at first).")
  private static void sheetsFirstAndLast() {
    StairRow x = Due.row(1, 0);
    for (int s = 0; s < 4; s++) {
      DUE.is("write", x.write(s, 0, 0), Due.MISSING);
      DUE.is("copy", x.copy(s, 0, s, 0, 0), Due.MISSING);
      DUE.is("load", x.load(s), Due.MISSING);
      DUE.is("judge", x.judge(s, 0, 0), Due.MISSING);
    }
    DUE.range("sheet", 0, 3, s -> x.sheet(s, 8, 1));
    DUE.range("write", 0, 3, s -> x.write(s, 0, 0));
    DUE.range("copy from", 0, 3, s -> x.copy(s, 0, 0, 0, 1));
    DUE.range("copy to", 0, 3, s -> x.copy(0, 0, s, 0, 1));
    DUE.range("load", 0, 3, s -> x.load(s));
    DUE.range("judge", 0, 3, s -> x.judge(s, 0, 0));
  }

  @Says("Terms: rows of at most 40 numbers")
  private static void sheetsOfAtMostForty() {
    StairRow x = new StairRow();
    for (int bits : new int[] {8, 16, 32}) {
      DUE.is("40 of " + bits, x.sheet(0, bits, 40), 40);
      DUE.range("write", 0, 39, i -> x.write(0, i, 1));
      DUE.is("41 of " + bits, x.sheet(0, bits, 41), Due.BEYOND);
    }
  }

  /** Whether a number, written to a sheet of so many bits, is room 2 then. */
  private static void isRoomTwo(int bits, int number, boolean due) {
    StairRow x = Due.openRow(2);
    x.stair(1, 0);
    x.change(0, 7, 0);
    x.sheet(0, bits, 2);
    x.write(0, 0, number);
    x.write(0, 1, 1);
    DUE.is(number + " in " + bits + " bits", x.judge(0, 0, 0), due ? 0 : 1);
  }

  @Says("Terms: of 8, 16 or 32 bits (told with their sign: of 8 bits 255 is -1)")
  private static void numbersOfTheirBits() {
    isRoomTwo(8, 2, true);
    isRoomTwo(8, 256 + 2, true);
    isRoomTwo(8, -256 + 2, true);
    isRoomTwo(8, 128 + 2, false);
    isRoomTwo(8, 255, false);
    isRoomTwo(8, Integer.MIN_VALUE + 2, true);
    isRoomTwo(16, 2, true);
    isRoomTwo(16, 256 + 2, false);
    isRoomTwo(16, 65536 + 2, true);
    isRoomTwo(16, -65536 + 2, true);
    isRoomTwo(16, 32768 + 2, false);
    isRoomTwo(32, 2, true);
    isRoomTwo(32, 256 + 2, false);
    isRoomTwo(32, 65536 + 2, false);
    isRoomTwo(32, Integer.MIN_VALUE + 2, false);
  }
}
