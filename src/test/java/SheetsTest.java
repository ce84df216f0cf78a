/** Promises 36 to 42: spots and sheets. */
public final class SheetsTest {
  private static final Due DUE = new Due();
  private static final int[] EXTREMES = {-1, Integer.MIN_VALUE, Integer.MAX_VALUE};

  public static void main(String[] args) {
    promise36Hold();
    promise37As();
    promise38Sheet();
    promise39Write();
    promise40Copy();
    promise40CopyWrong();
    promise41Load();
    promise42Judge();
    promise42JudgeWrong();
    DUE.end();
  }

  private static StairRow withSheet(int s, int bits, int... numbers) {
    StairRow x = Due.openRow(4);
    fill(x, s, bits, numbers);
    return x;
  }

  private static void fill(StairRow x, int s, int bits, int... numbers) {
    x.sheet(s, bits, numbers.length);
    for (int i = 0; i < numbers.length; i++) {
      x.write(s, i, numbers[i]);
    }
  }

  /** A number of a sheet, told by what load() makes of it: its lowest 8 bits. */
  private static int low(StairRow x, int s, int i) {
    x.sheet(3, bitsOf(x, s), 1);
    x.copy(s, i, 3, 0, 1);
    x.load(3);
    return x.of(0, 2);
  }

  private static int bitsOf(StairRow x, int s) {
    for (int bits = 8; bits <= 16; bits *= 2) {
      x.sheet(3, bits, 1);
      if (x.copy(s, 0, 3, 0, 0) == 0) {
        return bits;
      }
    }
    return 32;
  }

  private static void numbers(String call, StairRow x, int s, int... due) {
    for (int i = 0; i < due.length; i++) {
      DUE.is(call + ", number " + i, low(x, s, i), due[i]);
    }
    DUE.is(call + ", its end", x.write(s, due.length, 0), Due.BEYOND);
  }

  private static void promise36Hold() {
    StairRow x = new StairRow();
    DUE.is("36 nothing", x.hold(0, -1), 1);
    DUE.is("36 no house 0", x.hold(0, 0), Due.BEYOND);
    x.house(0);
    DUE.is("36 holds", x.hold(0, 0), 1);
    DUE.is("36 holds", x.hold(9, 0), 1);
    DUE.is("36 count", x.count(6), 2);
    DUE.is("36 house 1", x.hold(0, 1), Due.BEYOND);
    DUE.is("36 it still holds", x.as(0, 0), 0);
    DUE.is("36 nothing", x.hold(0, -1), 1);
    DUE.is("36 count", x.count(6), 1);
    DUE.is("36 spot 10", x.hold(10, 0), Due.BEYOND);
    DUE.is("36 house -2", x.hold(0, -2), Due.BEYOND);
    for (int no : EXTREMES) {
      DUE.is("36 spot", x.hold(no, 0), Due.BEYOND);
    }
    DUE.is("36 house", x.hold(0, Integer.MIN_VALUE), Due.BEYOND);
    DUE.is("36 house", x.hold(0, Integer.MAX_VALUE), Due.BEYOND);
  }

  private static void promise37As() {
    int[] under = {1, 1 | 2, 1 | 4, 1 | 4 | 8, 1 | 2 | 16, 1 | 32, 1 | 2 | 64};
    StairRow x = Due.row(1, 0);
    for (int kind = 0; kind < 7; kind++) {
      x.house(kind);
      x.hold(kind, kind + 1);
      for (int as = 0; as < 7; as++) {
        int due = (under[kind] >> as & 1) != 0 ? kind + 1 : Due.KIND;
        DUE.is("37 kind " + kind + " as " + as, x.as(kind, as), due);
      }
    }
    x.change(1, 0, 6);
    DUE.is("37 another kind now", x.as(0, 1), 1);
    DUE.is("37 empty", x.as(7, 0), Due.MISSING);
    x.hold(7, 0);
    DUE.is("37 house 0", x.as(7, 0), 0);
    x.hold(7, -1);
    DUE.is("37 empty again", x.as(7, 6), Due.MISSING);
    DUE.is("37 no kind, empty", x.as(7, 7), Due.BEYOND);
    DUE.is("37 spot 10", x.as(10, 0), Due.BEYOND);
    for (int no : EXTREMES) {
      DUE.is("37 spot", x.as(no, 0), Due.BEYOND);
      DUE.is("37 kind", x.as(0, no), Due.BEYOND);
    }
  }

  private static void promise38Sheet() {
    StairRow x = Due.row(1, 0);
    for (int bits : new int[] {8, 16, 32}) {
      DUE.is("38 made", x.sheet(0, bits, 40), 40);
      DUE.is("38 its last", x.write(0, 39, 7), 1);
      DUE.is("38 beyond", x.write(0, 40, 7), Due.BEYOND);
      DUE.is("38 none", x.sheet(1, bits, 0), 0);
      DUE.is("38 none, but it is there", x.write(1, 0, 7), Due.BEYOND);
    }
    x.write(0, 0, 9);
    DUE.is("38 again", x.sheet(0, 32, 2), 2);
    x.load(0);
    DUE.is("38 all 0", x.of(0, 2), 0);
    DUE.is("38 missing", x.sheet(0, 0, 5), 0);
    DUE.is("38 it is missing", x.write(0, 0, 7), Due.MISSING);
    DUE.is("38 missing, 40", x.sheet(3, 0, 40), 0);
    DUE.is("38 bits 0, n -1", x.sheet(0, 0, -1), Due.SIZE);
    DUE.is("38 bits 0, n 41", x.sheet(0, 0, 41), Due.BEYOND);
    DUE.is("38 n -1", x.sheet(1, 8, -1), Due.SIZE);
    DUE.is("38 n", x.sheet(1, 8, Integer.MIN_VALUE), Due.SIZE);
    DUE.is("38 n 41", x.sheet(1, 8, 41), Due.BEYOND);
    DUE.is("38 n", x.sheet(1, 8, Integer.MAX_VALUE), Due.BEYOND);
    DUE.is("38 other bits go ahead of n", x.sheet(1, 9, -1), Due.BEYOND);
    DUE.is("38 no sheet goes ahead of n", x.sheet(4, 8, -1), Due.BEYOND);
    for (int bits : new int[] {1, 7, 24, 33, 64, -8, Integer.MIN_VALUE, Integer.MAX_VALUE}) {
      DUE.is("38 bits " + bits, x.sheet(1, bits, 1), Due.BEYOND);
    }
    for (int no : EXTREMES) {
      DUE.is("38 sheet", x.sheet(no, 8, 1), Due.BEYOND);
    }
    DUE.is("38 findings change nothing", x.copy(1, 0, 1, 0, 0), 0);
  }

  private static void promise39Write() {
    StairRow x = Due.openRow(4);
    DUE.is("39 missing", x.write(2, 50, 0), Due.MISSING);
    DUE.is("39 no sheet", x.write(4, 0, 0), Due.BEYOND);
    x.sheet(2, 8, 3);
    DUE.is("39 written", x.write(2, 2, 5), 1);
    DUE.is("39 beyond", x.write(2, 3, 5), Due.BEYOND);
    for (int no : EXTREMES) {
      DUE.is("39 sheet", x.write(no, 0, 0), Due.BEYOND);
      DUE.is("39 number", x.write(2, no, 0), Due.BEYOND);
    }
    numbers("39", x, 2, 0, 0, 5);
    // The lowest bits are kept, with their sign: seen by whether a number is the room 2.
    int[] bits = {8, 16, 32};
    int[] value = {256 + 2, 65536 + 2, 2};
    for (int k = 0; k < 3; k++) {
      for (int j = 0; j < 3; j++) {
        x.sheet(0, bits[k], 1);
        x.write(0, 0, value[j]);
        DUE.is("39 " + value[j] + " in " + bits[k], x.judge(0, 0, 5), isTwo(k, j) ? 2 : 1);
      }
    }
  }

  private static boolean isTwo(int k, int j) {
    return j == 2 || k == 0 || k == 1 && j == 1;
  }

  private static void promise40Copy() {
    StairRow x = withSheet(0, 16, 1, 2, 3, 4, 5, 6);
    fill(x, 1, 16, 11, 12, 13, 14);
    DUE.is("40 copied", x.copy(0, 1, 1, 0, 3), 3);
    numbers("40", x, 1, 2, 3, 4, 14);
    numbers("40 the source", x, 0, 1, 2, 3, 4, 5, 6);
    DUE.is("40 onward in one", x.copy(0, 0, 0, 2, 4), 4);
    numbers("40 onward", x, 0, 1, 2, 1, 2, 3, 4);
    fill(x, 0, 16, 1, 2, 3, 4, 5, 6);
    DUE.is("40 back in one", x.copy(0, 2, 0, 0, 4), 4);
    numbers("40 back", x, 0, 3, 4, 5, 6, 5, 6);
    DUE.is("40 all", x.copy(0, 0, 0, 0, 6), 6);
    DUE.is("40 none at the end", x.copy(0, 6, 1, 4, 0), 0);
    DUE.is("40 none", x.copy(0, 0, 1, 0, 0), 0);
    numbers("40 then", x, 1, 2, 3, 4, 14);
  }

  private static void promise40CopyWrong() {
    StairRow x = withSheet(0, 16, 1, 2, 3, 4, 5, 6);
    fill(x, 1, 16, 11, 12, 13, 14);
    x.sheet(2, 32, 6);
    DUE.is("40 a sheet 4", x.copy(4, 0, 3, 0, -1), Due.BEYOND);
    DUE.is("40 a sheet 4", x.copy(3, 0, 4, 0, -1), Due.BEYOND);
    DUE.is("40 missing", x.copy(3, 0, 2, 0, -1), Due.MISSING);
    DUE.is("40 missing", x.copy(2, 0, 3, 0, -1), Due.MISSING);
    DUE.is("40 other bits", x.copy(0, 0, 2, 0, -1), Due.KIND);
    DUE.is("40 other bits, none", x.copy(2, 0, 0, 0, 0), Due.KIND);
    DUE.is("40 from 7", x.copy(0, 7, 1, 0, 0), Due.BEYOND);
    DUE.is("40 to 5", x.copy(0, 0, 1, 5, 0), Due.BEYOND);
    DUE.is("40 source has not so many", x.copy(0, 4, 1, 0, 3), Due.BEYOND);
    DUE.is("40 target has not so many", x.copy(0, 0, 1, 2, 3), Due.BEYOND);
    DUE.is("40 source has just so many", x.copy(0, 4, 1, 2, 2), 2);
    for (int no : EXTREMES) {
      DUE.is("40 s", x.copy(no, 0, 1, 0, 1), Due.BEYOND);
      DUE.is("40 t", x.copy(0, 0, no, 0, 1), Due.BEYOND);
      DUE.is("40 from", x.copy(0, no, 1, 0, 1), Due.BEYOND);
      DUE.is("40 to", x.copy(0, 0, 1, no, 1), Due.BEYOND);
      DUE.is("40 n", x.copy(0, 1, 1, 1, no), Due.BEYOND);
      DUE.is("40 from and n", x.copy(0, no, 1, 0, no), Due.BEYOND);
    }
  }

  private static void promise41Load() {
    StairRow x = Due.row(3, 0);
    DUE.is("41 missing", x.load(0), Due.MISSING);
    fill(x, 0, 32, 7, 256 + 9, -1, 4);
    DUE.is("41 ends with the houses", x.load(0), 3);
    DUE.is("41 leave of 0", x.of(0, 2), 7);
    DUE.is("41 its lowest 8 bits", x.of(1, 2), 9);
    DUE.is("41 below 0", x.of(2, 2), 255);
    fill(x, 1, 8, 200);
    DUE.is("41 ends with the sheet", x.load(1), 1);
    DUE.is("41 leave of 0", x.of(0, 2), 200);
    DUE.is("41 the others stay", x.of(1, 2), 9);
    x.sheet(1, 8, 0);
    DUE.is("41 no numbers", x.load(1), 0);
    DUE.is("41 no houses", emptyLoad(), 0);
    DUE.is("41 sheet 4", x.load(4), Due.BEYOND);
    for (int no : EXTREMES) {
      DUE.is("41 sheet", x.load(no), Due.BEYOND);
    }
  }

  private static int emptyLoad() {
    StairRow x = new StairRow();
    x.sheet(0, 8, 4);
    return x.load(0);
  }

  private static int judged(StairRow x, int family, int... rooms) {
    fill(x, 0, 8, rooms);
    return x.judge(0, family, 12);
  }

  private static void promise42Judge() {
    StairRow x = Due.openRow(4);
    x.stair(0, 1);
    x.stair(3, 0);
    x.door(3, true);
    x.door(0, true);
    DUE.is("42 a way home", judged(x, 1, 0, 3), 0);
    DUE.is("42 a longer one", judged(x, 1, 6, 5, 3), 0);
    DUE.is("42 back and forth", judged(x, 1, 2, 0, 3, 5, 3, 0, 3), 0);
    DUE.is("42 ends elsewhere", judged(x, 1, 0, 3, 5), 4);
    DUE.is("42 ends ahead of it", judged(x, 1, 0), 2);
    DUE.is("42 begins above", judged(x, 1, 3), 1);
    DUE.is("42 not joined", judged(x, 1, 0, 5, 3), 2);
    DUE.is("42 right, then not", judged(x, 1, 0, 3, 5, 7, 3), 4);
    DUE.is("42 stays in a room", judged(x, 1, 0, 0, 3), 2);
    DUE.is("42 no numbers", judged(x, 1), 1);
    DUE.is("42 no room", judged(x, 1, 0, 3, 8), 3);
    DUE.is("42 no room", judged(x, 1, 0, 3, 19), 3);
    DUE.is("42 no room", judged(x, 1, -1, 3), 1);
    DUE.is("42 no room, 32 up", judged(x, 1, 32, 3), 1);
    Due.leave(x, 0, 0);
    DUE.is("42 not let in", judged(x, 1, 0, 3), 1);
    DUE.is("42 not let in later", judged(x, 1, 2, 0, 3), 2);
    x.change(1, 7, 2);
    DUE.is("42 home is the bed", judged(x, 1, 6, 5), 0);
    DUE.is("42 and not the house", judged(x, 1, 6, 5, 3), 4);
    StairRow long32 = Due.openRow(2);
    long32.stair(0, 1);
    int[] rooms = new int[40];
    for (int i = 0; i < 40; i++) {
      rooms[i] = i % 2 * 3;
    }
    DUE.is("42 forty", judged(long32, 1, rooms), 0);
    rooms[39] = 0;
    DUE.is("42 all but the last", judged(long32, 1, rooms), 40);
    fill(long32, 0, 32, 0, 3);
    DUE.is("42 of 32 bits", long32.judge(0, 1, 0), 0);
    fill(long32, 0, 16, 0, Short.MIN_VALUE);
    DUE.is("42 of 16 bits", long32.judge(0, 1, 0), 2);
  }

  private static void promise42JudgeWrong() {
    StairRow x = withSheet(0, 8, 0, 3);
    DUE.is("42 sheet 4", x.judge(4, 9, 99), Due.BEYOND);
    DUE.is("42 missing goes ahead of a family", x.judge(1, 9, 99), Due.MISSING);
    DUE.is("42 family 4", x.judge(0, 4, 0), Due.BEYOND);
    DUE.is("42 clock 24", x.judge(0, 0, 24), Due.BEYOND);
    for (int no : EXTREMES) {
      DUE.is("42 sheet", x.judge(no, 0, 0), Due.BEYOND);
      DUE.is("42 family", x.judge(0, no, 0), Due.BEYOND);
      DUE.is("42 clock", x.judge(0, 0, no), Due.BEYOND);
    }
  }
}
