/** The sentences of promises 36 to 42 that name a boundary case: spots and sheets. */
public final class EdgesOfSheetsTest {
  private static final Due DUE = new Due();
  private static final int[] WIDTHS = {8, 16, 32};
  private static final int LEAST = Integer.MIN_VALUE;
  private static final int MOST = Integer.MAX_VALUE;

  public static void main(String[] args) {
    Sentences.run(EdgesOfSheetsTest.class, DUE);
  }

  private static void fill(StairRow x, int s, int bits, int... numbers) {
    x.sheet(s, bits, numbers.length);
    for (int i = 0; i < numbers.length; i++) {
      x.write(s, i, numbers[i]);
    }
  }

  /** All numbers of a sheet of 16 bits, by what load() makes of each: its lowest 8 bits. */
  private static void numbers(StairRow x, int s, int... due) {
    DUE.is("as many as that", x.write(s, due.length, 0), Due.BEYOND);
    x.sheet(3, 16, 1);
    for (int i = 0; i < due.length; i++) {
      x.copy(s, i, 3, 0, 1);
      x.load(3);
      DUE.is("number " + i, x.of(0, 2), due[i]);
    }
  }

  // ---- 36: hold

  @Says("36: A SPOT holds a HOUSE, or nothing (-1): 1.")
  private static void holdFirstLastAndNothing() {
    for (int n = 0; n <= 8; n++) {
      StairRow x = Due.row(n, 0);
      DUE.range("house of " + n, -1, n - 1, h -> x.hold(9, h));
      DUE.is("it holds the last", x.count(6), n > 0 ? 1 : 0);
      DUE.is("nothing", x.hold(9, -1), 1);
      DUE.is("nothing again", x.hold(9, -1), 1);
      DUE.is("none holds any", x.count(6), 0);
    }
  }

  @Says("36: BEYOND.")
  private static void holdBeyond() {
    StairRow x = Due.row(3, 0);
    x.hold(0, 1);
    x.hold(9, 2);
    DUE.range("spot", 0, 9, spot -> x.hold(spot, 2));
    DUE.is("spot 10, nothing", x.hold(10, -1), Due.BEYOND);
    DUE.is("spot -1, nothing", x.hold(-1, -1), Due.BEYOND);
    DUE.is("house -2", x.hold(0, -2), Due.BEYOND);
    DUE.is("house 3", x.hold(9, 3), Due.BEYOND);
    DUE.is("0 holds what it held", x.as(0, 0), 2);
    DUE.is("9 holds what it held", x.as(9, 0), 2);
  }

  @Says("36: A SPOT holds a HOUSE (each its own)")
  private static void holdEachItsOwn() {
    StairRow x = Due.row(8, 0);
    for (int spot = 0; spot < 10; spot++) {
      DUE.is("hold", x.hold(spot, spot % 8), 1);
      DUE.is("how many", x.count(6), spot + 1);
    }
    for (int spot = 0; spot < 10; spot++) {
      DUE.is("as(" + spot + ", 0)", x.as(spot, 0), spot % 8);
    }
  }

  // ---- 37: as

  @Says("37: as one of a kind (0 to 6): the number of the HOUSE. .. KIND: it isn't of that kind, nor of one under it.")
  private static void asEachKind() {
    int[][] is = {{0}, {0, 1}, {0, 2}, {0, 2, 3}, {0, 1, 4}, {0, 5}, {0, 1, 6}};
    StairRow x = Due.row(8, 0);
    x.hold(0, 7);
    for (int kind = 0; kind < 7; kind++) {
      x.change(7, 0, kind);
      int due = 0;
      for (int one : is[kind]) {
        due |= 1 << one;
      }
      for (int as = 0; as < 7; as++) {
        DUE.is(kind + " as " + as, x.as(0, as), (due >> as & 1) == 1 ? 7 : Due.KIND);
      }
    }
  }

  @Says("37: MISSING: it holds nothing.")
  private static void asOfNothing() {
    StairRow x = Due.row(1, 0);
    for (int as = 0; as < 7; as++) {
      DUE.is("at first", x.as(9, as), Due.MISSING);
    }
    x.hold(9, 0);
    DUE.is("house 0", x.as(9, 0), 0);
    x.hold(9, -1);
    DUE.is("nothing again", x.as(9, 0), Due.MISSING);
    DUE.is("goes ahead of KIND", x.as(9, 6), Due.MISSING);
  }

  @Says("37: BEYOND. MISSING: .. KIND: .. (in this order)")
  private static void asBeyond() {
    StairRow x = Due.row(1, 0);
    x.hold(0, 0);
    DUE.range("kind", 0, 6, kind -> x.as(0, kind));
    DUE.range("kind of an empty spot", 0, 6, kind -> x.as(1, kind));
    DUE.range("spot", 0, 9, spot -> x.as(spot, 0));
    DUE.is("neither", x.as(10, 7), Due.BEYOND);
  }

  // ---- 38: sheet

  @Says("38: A sheet has n numbers, all 0, of 8, 16 or 32 bits .. n")
  private static void sheetOfNoneToForty() {
    for (int bits : WIDTHS) {
      for (int n = 0; n <= 40; n++) {
        StairRow x = new StairRow();
        DUE.is("sheet(3, " + bits + ", " + n + ")", x.sheet(3, bits, n), n);
        DUE.is("one behind the last", x.write(3, n, 1), Due.BEYOND);
        DUE.is("the last", x.write(3, n - 1, 1), n == 0 ? Due.BEYOND : 1);
        DUE.is("all of them", x.copy(3, 0, 3, 0, n), n);
        DUE.is("and one", x.copy(3, 0, 3, 0, n + 1), Due.BEYOND);
      }
    }
  }

  @Says("38: all 0")
  private static void sheetIsAllZero() {
    StairRow x = Due.openRow(1);
    x.sheet(0, 16, 40);
    for (int i = 0; i < 40; i++) {
      x.write(0, i, -1);
    }
    x.sheet(0, 16, 3);
    numbers(x, 0, 0, 0, 0);
    x.sheet(0, 16, 40);
    numbers(x, 0, new int[40]);
  }

  @Says("38: bits 0: it is MISSING: .. (0 if it is MISSING).")
  private static void sheetMissingAgain() {
    StairRow x = new StairRow();
    for (int n : new int[] {0, 1, 40}) {
      x.sheet(0, 8, 5);
      DUE.is("sheet(0, 0, " + n + ")", x.sheet(0, 0, n), 0);
      DUE.is("write", x.write(0, 0, 0), Due.MISSING);
      DUE.is("missing already", x.sheet(0, 0, n), 0);
    }
    DUE.is("a sheet without numbers isn't", x.sheet(0, 8, 0), 0);
    DUE.is("write", x.write(0, 0, 0), Due.BEYOND);
    DUE.is("no finding by sheet()", x.status(0), 1);
  }

  @Says("38: BEYOND: no such sheet, other bits.")
  private static void sheetBeyond() {
    StairRow x = new StairRow();
    DUE.range("sheet", 0, 3, s -> x.sheet(s, 0, 0));
    for (int bits = -1; bits <= 65; bits++) {
      boolean is = bits == 0 || bits == 8 || bits == 16 || bits == 32;
      DUE.is("bits " + bits, x.sheet(0, bits, 7), !is ? Due.BEYOND : bits == 0 ? 0 : 7);
    }
    for (int bits : new int[] {-8, 264, 65544, LEAST, LEAST + 8, MOST}) {
      DUE.is("bits " + bits, x.sheet(0, bits, 7), Due.BEYOND);
    }
  }

  @Says("38: SIZE: n is below 0 (also with bits 0).")
  private static void sheetBelowNone() {
    StairRow x = new StairRow();
    for (int bits : new int[] {0, 8, 16, 32}) {
      for (int n : new int[] {-1, -2, -40, LEAST, Due.BEYOND}) {
        DUE.is("sheet(0, " + bits + ", " + n + ")", x.sheet(0, bits, n), Due.SIZE);
      }
    }
    DUE.is("SIZE each time", x.status(6), 20);
  }

  @Says("38: BEYOND: n is above 40 (also with bits 0).")
  private static void sheetAboveForty() {
    StairRow x = new StairRow();
    for (int bits : new int[] {0, 8, 16, 32}) {
      for (int n : new int[] {41, 42, 64, 256, 65536, MOST}) {
        DUE.is("sheet(0, " + bits + ", " + n + ")", x.sheet(0, bits, n), Due.BEYOND);
      }
    }
    DUE.is("none is there", x.load(0), Due.MISSING);
  }

  @Says("38: BEYOND: .. SIZE: .. BEYOND: .. (in this order)")
  private static void sheetFindingsInOrder() {
    StairRow x = new StairRow();
    DUE.is("no such sheet, n below 0", x.sheet(4, 8, -1), Due.BEYOND);
    DUE.is("no such sheet, n below 0", x.sheet(-1, 0, -1), Due.BEYOND);
    DUE.is("other bits, n below 0", x.sheet(0, 24, -1), Due.BEYOND);
    DUE.is("n below 0", x.sheet(0, 8, -1), Due.SIZE);
  }

  @Says("38: a refused sheet() leaves the sheet as it was")
  private static void sheetRefusedStays() {
    StairRow x = Due.row(1, 0);
    fill(x, 0, 16, 5, 6);
    x.sheet(0, 0, -1);
    x.sheet(0, 0, 41);
    x.sheet(0, 8, -1);
    x.sheet(0, 32, 41);
    x.sheet(0, 4, 1);
    numbers(x, 0, 5, 6);
  }

  // ---- 39: write

  @Says("39: Number i of a sheet becomes v .. BEYOND: no such number.")
  private static void writeFirstAndLast() {
    for (int bits : WIDTHS) {
      StairRow x = new StairRow();
      x.sheet(2, bits, 5);
      DUE.range("write to five of " + bits, 0, 4, i -> x.write(2, i, -1));
      x.sheet(2, bits, 0);
      DUE.is("write to none", x.write(2, 0, 0), Due.BEYOND);
    }
  }

  @Says("39: becomes v (its lowest bits): 1.")
  private static void writeLowestBits() {
    int[] values = {0, 1, 127, 128, 255, 256, 511, -1, -128, -129, 65535, 65536, LEAST, MOST};
    for (int bits : WIDTHS) {
      StairRow x = Due.row(1, 0);
      for (int v : values) {
        x.sheet(0, bits, 1);
        DUE.is("write " + v, x.write(0, 0, v), 1);
        x.load(0);
        DUE.is("its lowest 8", x.of(0, 2), v & 255);
      }
    }
  }

  @Says("39: BEYOND: no such sheet. MISSING. BEYOND: no such number. (in this order)")
  private static void writeFindingsInOrder() {
    StairRow x = new StairRow();
    x.sheet(0, 8, 1);
    DUE.is("no such sheet, no such number", x.write(4, 9, 0), Due.BEYOND);
    DUE.is("no such sheet, no such number", x.write(-1, -1, 0), Due.BEYOND);
    DUE.is("MISSING, no such number", x.write(1, 9, 0), Due.MISSING);
    DUE.is("MISSING, no such number", x.write(3, -1, 0), Due.MISSING);
    DUE.is("no such number", x.write(0, 1, 0), Due.BEYOND);
    DUE.is("no such number", x.write(0, -1, 0), Due.BEYOND);
  }

  // ---- 40: copy

  @Says("40: n numbers of a sheet from one on come to another one from one on: n.")
  private static void copyAtBothEnds() {
    StairRow x = Due.row(1, 0);
    fill(x, 0, 16, 1, 2, 3, 4);
    fill(x, 1, 16, 11, 12, 13, 14);
    DUE.is("the first", x.copy(0, 0, 1, 3, 1), 1);
    DUE.is("the last", x.copy(0, 3, 1, 0, 1), 1);
    numbers(x, 1, 4, 12, 13, 1);
    DUE.is("all", x.copy(0, 0, 1, 0, 4), 4);
    numbers(x, 1, 1, 2, 3, 4);
    DUE.is("all but the last", x.copy(0, 0, 1, 1, 3), 3);
    numbers(x, 1, 1, 1, 2, 3);
    numbers(x, 0, 1, 2, 3, 4);
  }

  @Says("40: (as they all were)")
  private static void copyWithinOneSheet() {
    StairRow x = Due.row(1, 0);
    fill(x, 0, 16, 1, 2, 3, 4, 5);
    DUE.is("onward by one", x.copy(0, 0, 0, 1, 4), 4);
    numbers(x, 0, 1, 1, 2, 3, 4);
    DUE.is("back by one", x.copy(0, 1, 0, 0, 4), 4);
    numbers(x, 0, 1, 2, 3, 4, 4);
    DUE.is("onward by two", x.copy(0, 0, 0, 2, 3), 3);
    numbers(x, 0, 1, 2, 1, 2, 3);
    DUE.is("to the same place", x.copy(0, 1, 0, 1, 4), 4);
    numbers(x, 0, 1, 2, 1, 2, 3);
  }

  @Says("40: n numbers (none)")
  private static void copyOfNone() {
    StairRow x = Due.row(1, 0);
    fill(x, 0, 16, 1, 2);
    fill(x, 1, 16);
    DUE.is("from the begin", x.copy(0, 0, 1, 0, 0), 0);
    DUE.is("from the end", x.copy(0, 2, 1, 0, 0), 0);
    DUE.is("to the end", x.copy(0, 0, 0, 2, 0), 0);
    DUE.is("of an empty one", x.copy(1, 0, 1, 0, 0), 0);
    DUE.is("one of an empty one", x.copy(1, 0, 0, 0, 1), Due.BEYOND);
    DUE.is("one to an empty one", x.copy(0, 0, 1, 0, 1), Due.BEYOND);
    numbers(x, 0, 1, 2);
  }

  @Says("40: BEYOND: one has not so many (from or to beyond the end, too)")
  private static void copyBeyondTheEnd() {
    StairRow x = Due.row(1, 0);
    fill(x, 0, 16, 1, 2, 3, 4);
    fill(x, 1, 16, 11, 12, 13);
    for (int from = 0; from <= 6; from++) {
      for (int n = 0; n <= 6; n++) {
        boolean is = from + n <= 4;
        DUE.is("from " + from + ", " + n, x.copy(0, from, 0, 0, n), is ? n : Due.BEYOND);
        DUE.is("to " + from + ", " + n, x.copy(0, 0, 0, from, n), is ? n : Due.BEYOND);
      }
    }
    DUE.is("the source has them", x.copy(0, 0, 1, 0, 4), Due.BEYOND);
    DUE.is("the target has them", x.copy(1, 0, 0, 0, 4), Due.BEYOND);
    DUE.is("from 5, none", x.copy(0, 5, 1, 0, 0), Due.BEYOND);
    DUE.is("to 4 of three, none", x.copy(0, 0, 1, 4, 0), Due.BEYOND);
  }

  @Says("40: or from, to or n is below 0.")
  private static void copyBelowNone() {
    StairRow x = Due.row(1, 0);
    fill(x, 0, 16, 1, 2, 3, 4);
    fill(x, 1, 16, 11, 12, 13, 14);
    for (int no : new int[] {-1, -2, LEAST, LEAST + 1}) {
      DUE.is("from " + no, x.copy(0, no, 1, 0, 1), Due.BEYOND);
      DUE.is("to " + no, x.copy(0, 0, 1, no, 1), Due.BEYOND);
      DUE.is("n " + no, x.copy(0, 2, 1, 2, no), Due.BEYOND);
      DUE.is("from " + no + ", none", x.copy(0, no, 1, 0, 0), Due.BEYOND);
      DUE.is("to " + no + ", none", x.copy(0, 0, 1, no, 0), Due.BEYOND);
    }
    numbers(x, 1, 11, 12, 13, 14);
  }

  @Says("40: one has not so many (from and n that go round over the greatest int)")
  private static void copyThatWrapsAround() {
    StairRow x = Due.row(1, 0);
    fill(x, 0, 16, 1, 2, 3, 4);
    for (int far : new int[] {MOST, MOST - 1, MOST - 3, LEAST, 1 << 30}) {
      DUE.is("from " + far, x.copy(0, far, 0, 0, 4), Due.BEYOND);
      DUE.is("to " + far, x.copy(0, 0, 0, far, 4), Due.BEYOND);
      DUE.is("n " + far, x.copy(0, 4, 0, 4, far), Due.BEYOND);
      DUE.is("from and n " + far, x.copy(0, far, 0, 0, far), Due.BEYOND);
      DUE.is("to and n " + far, x.copy(0, 0, 0, far, far), Due.BEYOND);
      DUE.is("all " + far, x.copy(0, far, 0, far, far), Due.BEYOND);
    }
    numbers(x, 0, 1, 2, 3, 4);
  }

  @Says("40: BEYOND: no such sheet (either). MISSING: one is. KIND: .. BEYOND: .. (in this order)")
  private static void copyFindingsInOrder() {
    StairRow x = Due.row(1, 0);
    x.sheet(0, 8, 2);
    x.sheet(1, 16, 2);
    x.sheet(2, 32, 2);
    DUE.is("no such source, missing target", x.copy(4, -1, 3, -1, -1), Due.BEYOND);
    DUE.is("missing source, no such target", x.copy(3, -1, -1, -1, -1), Due.BEYOND);
    DUE.is("missing source", x.copy(3, -1, 0, -1, -1), Due.MISSING);
    DUE.is("missing target", x.copy(0, -1, 3, -1, -1), Due.MISSING);
    DUE.is("both are missing", x.copy(3, 0, 3, 0, 0), Due.MISSING);
    for (int s = 0; s < 3; s++) {
      for (int t = 0; t < 3; t++) {
        DUE.is(s + " to " + t, x.copy(s, 0, t, 0, 2), s == t ? 2 : Due.KIND);
        DUE.is(s + " to " + t + ", n -1", x.copy(s, 0, t, 0, -1), s == t ? Due.BEYOND : Due.KIND);
        DUE.is(s + " to " + t + ", none", x.copy(s, 0, t, 0, 0), s == t ? 0 : Due.KIND);
      }
    }
  }

  // ---- 41: load

  @Says("41: it ends where there is no HOUSE.")
  private static void loadEndsWithTheHouses() {
    for (int n = 0; n <= 8; n++) {
      StairRow x = Due.row(n, 0);
      int[] all = new int[40];
      for (int i = 0; i < 40; i++) {
        all[i] = 100 + i;
      }
      fill(x, 0, 8, all);
      DUE.is("load(0) of " + n + " houses", x.load(0), n);
      for (int h = 0; h < n; h++) {
        DUE.is("LEAVE of " + h, x.of(h, 2), 100 + h);
      }
    }
  }

  @Says("41: Numbers of a sheet, from its begin on .. how many came")
  private static void loadEndsWithTheSheet() {
    for (int n = 0; n <= 8; n++) {
      StairRow x = Due.openRow(8);
      x.sheet(0, 32, n);
      DUE.is("load(0) of " + n + " numbers", x.load(0), n);
      for (int h = 0; h < 8; h++) {
        DUE.is("LEAVE of " + h, x.of(h, 2), h < n ? 0 : 255);
      }
    }
  }

  @Says("41: (their lowest 8 bits)")
  private static void loadLowestBits() {
    StairRow x = Due.row(8, 0);
    int[] all = {255, 256, -1, -256, 128, LEAST, MOST, 65536 + 3};
    int[] due = {255, 0, 255, 0, 128, 0, 255, 3};
    for (int bits : WIDTHS) {
      fill(x, 0, bits, all);
      DUE.is("load(0) of " + bits + " bits", x.load(0), 8);
      for (int h = 0; h < 8; h++) {
        DUE.is("LEAVE of " + h, x.of(h, 2), due[h]);
      }
    }
  }

  @Says("41: BEYOND: no such sheet. MISSING.")
  private static void loadFindings() {
    StairRow x = new StairRow();
    DUE.range("load", 0, 3, s -> x.load(s));
    for (int s = 0; s < 4; s++) {
      DUE.is("missing", x.load(s), Due.MISSING);
      x.sheet(s, 8, 0);
      DUE.is("without numbers", x.load(s), 0);
    }
  }

  // ---- 42: judge

  private static int judged(StairRow x, int family, int... rooms) {
    fill(x, 0, 16, rooms);
    return x.judge(0, family, 12);
  }

  /** Up from ground 1 to upper 0, by doors on to upper 7; all are let in at 6 to 22. */
  private static StairRow chain() {
    StairRow x = Due.row(8, 0);
    x.stair(1, 0);
    for (int h = 0; h < 8; h++) {
      Due.leave(x, h, 255);
    }
    for (int d = 1; d < 14; d += 2) {
      x.door(d, true);
    }
    return x;
  }

  @Says("42: numbers of a sheet are the ROOMS of a WAY of a FAMILY HOME at a CLOCK: 0 if so")
  private static void judgeShortAndLong() {
    StairRow x = chain();
    DUE.is("two rooms", judged(x, 0, 2, 1), 0);
    DUE.is("nine rooms", judged(x, 7, 2, 1, 3, 5, 7, 9, 11, 13, 15), 0);
    int[] forty = new int[40];
    for (int i = 0; i < 40; i++) {
      forty[i] = i % 2 == 0 ? 2 : 1;
    }
    DUE.is("forty rooms, to and fro", judged(x, 0, forty), 0);
    DUE.is("home at 6", x.judge(0, 0, 6), 0);
    DUE.is("not let in at 5", x.judge(0, 0, 5), 1);
    DUE.is("home at 22", x.judge(0, 0, 22), 0);
    DUE.is("not let in at 23", x.judge(0, 0, 23), 1);
  }

  @Says("42: else 1 and how many are right, from the first on")
  private static void judgeWrongAtEach() {
    StairRow x = chain();
    int[] rooms = {2, 1, 3, 5, 7, 9, 11, 13, 15};
    for (int wrong = 0; wrong < rooms.length; wrong++) {
      int right = rooms[wrong];
      int[] others = {-1, 16, 30, 255, 256, LEAST, MOST, right + 16, right + 32, right - 32, ~right};
      for (int other : others) {
        int[] with = rooms.clone();
        with[wrong] = other;
        fill(x, 1, 32, with);
        DUE.is(other + " at " + wrong, x.judge(1, 7, 12), 1 + wrong);
      }
    }
  }

  @Says("42: each next one is joined to the one ahead (of a WAY)")
  private static void judgeNotJoined() {
    StairRow x = chain();
    DUE.is("not joined to a ground", judged(x, 7, 2, 3, 5), 2);
    DUE.is("over one", judged(x, 7, 2, 1, 5, 7, 9, 11, 13, 15), 3);
    DUE.is("over the last but one", judged(x, 7, 2, 1, 3, 5, 7, 9, 11, 15), 8);
    DUE.is("twice the same", judged(x, 7, 2, 1, 3, 3, 5, 7, 9, 11, 13, 15), 4);
    DUE.is("back, and on", judged(x, 7, 2, 1, 3, 1, 3, 5, 7, 9, 11, 13, 15), 0);
    x.door(7, false);
    DUE.is("a shut door", judged(x, 7, 2, 1, 3, 5, 7, 9, 11, 13, 15), 6);
    x.stair(1, -1);
    DUE.is("no stair", judged(x, 7, 2, 1), 2);
  }

  @Says("42: else 1 and how many are right (rooms of houses that there aren't)")
  private static void judgeRoomsThatArentThere() {
    StairRow x = Due.row(1, 3);
    x.stair(0, 1);
    DUE.is("upper 1 isn't there", judged(x, 0, 0, 3), 2);
    DUE.is("ground 1 isn't there", judged(x, 0, 2), 1);
    DUE.is("ground 7 isn't there", judged(x, 0, 14), 1);
    x.house(3);
    DUE.is("now it is, but not home", judged(x, 0, 0, 3), 3);
    DUE.is("home of the other", judged(x, 1, 0, 3), 0);
  }

  @Says("42: else 1 and how many are right (a house that doesn't let in)")
  private static void judgeNotLetIn() {
    StairRow x = chain();
    for (int h = 0; h < 7; h++) {
      x.name(h, 0, 7, false);
      int first = h == 1 ? 1 : h == 0 ? 2 : h + 2;
      DUE.is("house " + h, judged(x, 7, 2, 1, 3, 5, 7, 9, 11, 13, 15), first);
      x.name(h, 0, 7, true);
    }
    x.name(7, 0, 7, false);
    DUE.is("its own one does", judged(x, 7, 2, 1, 3, 5, 7, 9, 11, 13, 15), 0);
  }

  @Says("42: (1 and all, if it ends elsewhere)")
  private static void judgeEndsElsewhere() {
    StairRow x = chain();
    DUE.is("no numbers", judged(x, 7), 1);
    DUE.is("a ground", judged(x, 7, 2), 2);
    DUE.is("its own ground", judged(x, 7, 14), 2);
    DUE.is("one ahead", judged(x, 7, 2, 1, 3, 5, 7, 9, 11, 13), 9);
    DUE.is("home and back", judged(x, 0, 2, 1, 2), 4);
    int[] forty = new int[40];
    for (int i = 0; i < 40; i++) {
      forty[i] = i % 2 == 0 ? 2 : 1;
    }
    DUE.is("forty rooms, home of another", judged(x, 3, forty), 41);
    forty[39] = 3;
    DUE.is("the fortieth is wrong", judged(x, 0, forty), 40);
  }

  @Says("42: the first ROOM is any GROUND (of a WAY)")
  private static void judgeBeginsInTheStreet() {
    StairRow x = chain();
    DUE.is("begins above", judged(x, 0, 1), 1);
    DUE.is("begins above, then right", judged(x, 7, 13, 15), 1);
    for (int h = 0; h < 8; h++) {
      DUE.is("begins at ground " + h, judged(x, 7, 2 * h), 2);
    }
  }

  @Says("42: BEYOND: no such sheet. MISSING. BEYOND: no such FAMILY, CLOCK. (in this order)")
  private static void judgeFindingsInOrder() {
    StairRow x = Due.row(2, 0);
    x.sheet(0, 8, 1);
    DUE.is("no such sheet, family, clock", x.judge(4, 2, 24), Due.BEYOND);
    DUE.is("missing, no such family", x.judge(3, 2, 0), Due.MISSING);
    DUE.is("missing, no such clock", x.judge(3, 0, 24), Due.MISSING);
    DUE.range("family", 0, 1, f -> x.judge(0, f, 0));
    DUE.range("clock", 0, 23, c -> x.judge(0, 0, c));
    DUE.range("sheet", 0, 3, s -> x.judge(s, 0, 0));
    StairRow none = new StairRow();
    none.sheet(0, 8, 0);
    DUE.is("without houses", none.judge(0, 0, 0), Due.BEYOND);
  }
}
