/** Promises 1 to 10: a new object, houses, doors, who lets whom in, what is joined. */
public final class HousesTest {
  private static final Due DUE = new Due();
  private static final int[] EXTREMES = {-1, Integer.MIN_VALUE, Integer.MAX_VALUE};

  public static void main(String[] args) {
    promise1NewObject();
    promise2House();
    promise3Of();
    promise4Change();
    promise5Stair();
    promise6Name();
    promise7Door();
    promise8LetsByKind();
    promise8LetsByHours();
    promise8LetsWrong();
    promise9Letting();
    promise10Joined();
    DUE.end();
  }

  private static void promise1NewObject() {
    StairRow x = new StairRow();
    for (int what = 0; what <= 4; what++) {
      DUE.is("1 count(" + what + ")", x.count(what), 0);
    }
    DUE.is("1 count(5)", x.count(5), 1);
    DUE.is("1 count(6)", x.count(6), 0);
    DUE.is("1 tear", x.tear(), 0);
    DUE.is("1 wipe", x.wipe(), 0);
    DUE.is("1 status", x.status(-1), 0);
    for (int s = 0; s < 4; s++) {
      DUE.is("1 write on a missing sheet", x.write(s, 0, 0), Due.MISSING);
    }
    for (int spot = 0; spot < 10; spot++) {
      DUE.is("1 as of an empty spot", x.as(spot, 0), Due.MISSING);
    }
    for (int d = 0; d < 14; d++) {
      DUE.is("1 door " + d, x.door(d, false), 0);
    }
    DUE.is("1 undo", x.undo(), Due.NONE);
    StairRow other = new StairRow();
    x.house(0);
    DUE.is("1 two objects share nothing", other.count(0), 0);
  }

  private static void promise2House() {
    StairRow x = new StairRow();
    for (int kind = 0; kind < 7; kind++) {
      DUE.is("2 house(" + kind + ")", x.house(kind), kind);
      DUE.is("2 its kind", x.of(kind, 0), kind);
    }
    for (int no : EXTREMES) {
      DUE.is("2 house(" + no + ")", x.house(no), Due.BEYOND);
    }
    DUE.is("2 house(7)", x.house(7), Due.BEYOND);
    DUE.is("2 eighth", x.house(0), 7);
    DUE.is("2 ninth", x.house(0), Due.FULL);
    DUE.is("2 ninth of no kind", x.house(7), Due.BEYOND);
    DUE.is("2 count", x.count(0), 8);
  }

  private static void promise3Of() {
    StairRow x = Due.row(3, 5);
    int[] due = {5, -1, 0, 6, 22, 0, 2, 2};
    for (int what = 0; what < 8; what++) {
      DUE.is("3 of(2, " + what + ")", x.of(2, what), due[what]);
    }
    DUE.is("3 of(0, 7)", x.of(0, 7), 0);
    DUE.is("3 of(3, 0)", x.of(3, 0), Due.BEYOND);
    DUE.is("3 of(0, 8)", x.of(0, 8), Due.BEYOND);
    for (int no : EXTREMES) {
      DUE.is("3 of(" + no + ", 0)", x.of(no, 0), Due.BEYOND);
      DUE.is("3 of(0, " + no + ")", x.of(0, no), Due.BEYOND);
    }
    x.stair(0, 1);
    x.name(0, 0, 7, true);
    x.name(0, 1, 6, true);
    DUE.is("3 STAIR", x.of(0, 1), 1);
    DUE.is("3 LEAVE", x.of(0, 2), 128);
    DUE.is("3 FOES", x.of(0, 5), 64);
  }

  private static void promise4Change() {
    StairRow x = Due.row(2, 0);
    int[] what = {0, 3, 4, 6, 7};
    int[] first = {0, 6, 22, 2, 0};
    int[] most = {6, 23, 23, 9, 1};
    for (int k = 0; k < what.length; k++) {
      String call = "4 change(0, " + what[k] + ", ";
      DUE.is(call + "most)", x.change(0, what[k], most[k]), first[k]);
      DUE.is(call + "0)", x.change(0, what[k], 0), most[k]);
      DUE.is(call + "0) again", x.change(0, what[k], 0), 0);
      DUE.is(call + "most + 1)", x.change(0, what[k], most[k] + 1), Due.BEYOND);
      for (int no : EXTREMES) {
        DUE.is(call + no + ")", x.change(0, what[k], no), Due.BEYOND);
        DUE.is("4 change of no house", x.change(no, what[k], 0), Due.BEYOND);
      }
      DUE.is("4 change of house 2", x.change(2, what[k], 0), Due.BEYOND);
      DUE.is("4 nothing changed", x.of(0, what[k]), 0);
    }
    for (int no : new int[] {1, 2, 5, 8, -1, Integer.MIN_VALUE, Integer.MAX_VALUE}) {
      DUE.is("4 change(0, " + no + ", 0)", x.change(0, no, 0), Due.BEYOND);
    }
    DUE.is("4 the other stays", x.of(1, 3), 6);
  }

  private static void promise5Stair() {
    StairRow x = Due.row(1, 0);
    DUE.is("5 to none yet", x.stair(0, 1), -1);
    DUE.is("5 told", x.of(0, 1), 1);
    DUE.is("5 again", x.stair(0, 1), 1);
    DUE.is("5 left of 0", x.stair(0, 0), Due.BEYOND);
    DUE.is("5 no more", x.stair(0, -1), 1);
    DUE.is("5 none", x.stair(0, -1), -1);
    for (int no : new int[] {2, -2, Integer.MIN_VALUE, Integer.MAX_VALUE}) {
      DUE.is("5 way " + no, x.stair(0, no), Due.BEYOND);
    }
    DUE.is("5 no house", x.stair(1, -1), Due.BEYOND);
    DUE.is("5 no house", x.stair(-1, 1), Due.BEYOND);
    x = Due.row(8, 0);
    DUE.is("5 right of 7", x.stair(7, 1), Due.BEYOND);
    DUE.is("5 left of 7", x.stair(7, 0), -1);
    DUE.is("5 was left of 7", x.stair(7, -1), 6);
    DUE.is("5 right of 6", x.stair(6, 1), -1);
    DUE.is("5 was right of 6", x.stair(6, 0), 7);
  }

  private static void promise6Name() {
    StairRow x = Due.row(1, 0);
    for (int what = 0; what < 2; what++) {
      DUE.is("6 in", x.name(0, what, 7, true), 0);
      DUE.is("6 in again", x.name(0, what, 7, true), 1);
      DUE.is("6 another", x.name(0, what, 0, true), 0);
      DUE.is("6 set", x.of(0, what == 0 ? 2 : 5), 129);
      DUE.is("6 out", x.name(0, what, 7, false), 1);
      DUE.is("6 out again", x.name(0, what, 7, false), 0);
      DUE.is("6 set then", x.of(0, what == 0 ? 2 : 5), 1);
      DUE.is("6 family 8", x.name(0, what, 8, true), Due.BEYOND);
      DUE.is("6 house 1", x.name(1, what, 0, true), Due.BEYOND);
    }
    DUE.is("6 what 2", x.name(0, 2, 0, true), Due.BEYOND);
    for (int no : EXTREMES) {
      DUE.is("6 house " + no, x.name(no, 0, 0, true), Due.BEYOND);
      DUE.is("6 what " + no, x.name(0, no, 0, true), Due.BEYOND);
      DUE.is("6 family " + no, x.name(0, 0, no, true), Due.BEYOND);
    }
  }

  private static void promise7Door() {
    StairRow x = new StairRow();
    for (int d = 0; d < 14; d++) {
      DUE.is("7 opens", x.door(d, true), 0);
      DUE.is("7 is open", x.door(d, true), 1);
      DUE.is("7 shuts", x.door(d, false), 1);
      DUE.is("7 is shut", x.door(d, d % 2 == 0), 0);
    }
    DUE.is("7 count", x.count(1), 7);
    DUE.is("7 door 14", x.door(14, true), Due.BEYOND);
    for (int no : EXTREMES) {
      DUE.is("7 door " + no, x.door(no, true), Due.BEYOND);
    }
  }

  /** At which clocks a house of a kind lets a stranger in who is, or is not, named. */
  private static void promise8LetsByKind() {
    int hours = span(6, 22);
    letsAt(0, true, false, hours);
    letsAt(0, false, false, 0);
    letsAt(1, true, false, span(6, 19));
    letsAt(1, false, false, 0);
    letsAt(2, true, false, hours);
    letsAt(2, false, false, hours);
    letsAt(3, false, false, span(0, 23));
    letsAt(4, true, false, span(6, 19));
    letsAt(4, false, false, 1 << 12);
    letsAt(5, true, false, span(7, 19));
    letsAt(5, false, false, 0);
    letsAt(6, true, false, span(6, 19));
    letsAt(6, true, true, 0);
    letsAt(6, false, false, 0);
    letsAt(0, true, true, hours);
    letsAt(1, true, true, span(6, 19));
    letsAt(4, false, true, 1 << 12);
  }

  private static void letsAt(int kind, boolean leave, boolean foe, int due) {
    StairRow x = Due.row(2, kind);
    x.name(0, 0, 1, leave);
    x.name(0, 1, 1, foe);
    x.name(0, 1, 0, true);
    String call = "8 kind " + kind + " leave " + leave + " foe " + foe + " at ";
    for (int clock = 0; clock < 24; clock++) {
      DUE.is(call + clock, x.lets(0, 1, clock), due >> clock & 1);
      DUE.is("8 its own one", x.lets(0, 0, clock), 1);
    }
  }

  private static int span(int from, int to) {
    int set = 0;
    for (int clock = from; clock <= to; clock++) {
      set |= 1 << clock;
    }
    return set;
  }

  private static void promise8LetsByHours() {
    for (int kind : new int[] {0, 2}) {
      StairRow x = Due.row(2, kind);
      x.name(0, 0, 1, true);
      x.change(0, 3, 21);
      x.change(0, 4, 3);
      int round = span(21, 23) | span(0, 3);
      for (int clock = 0; clock < 24; clock++) {
        DUE.is("8 round over 0 at " + clock, x.lets(0, 1, clock), round >> clock & 1);
      }
      x.change(0, 4, 21);
      for (int clock = 0; clock < 24; clock++) {
        DUE.is("8 one clock at " + clock, x.lets(0, 1, clock), clock == 21 ? 1 : 0);
      }
    }
    StairRow guard = Due.row(2, 4);
    guard.change(0, 3, 0);
    guard.change(0, 4, 1);
    DUE.is("8 a guard at 12 beyond its hours", guard.lets(0, 1, 12), 1);
  }

  private static void promise8LetsWrong() {
    StairRow x = Due.row(2, 3);
    DUE.is("8 clock 24", x.lets(0, 1, 24), Due.BEYOND);
    DUE.is("8 house 2", x.lets(2, 1, 0), Due.BEYOND);
    DUE.is("8 family 2", x.lets(0, 2, 0), Due.BEYOND);
    for (int no : EXTREMES) {
      DUE.is("8 house " + no, x.lets(no, 0, 0), Due.BEYOND);
      DUE.is("8 family " + no, x.lets(0, no, 0), Due.BEYOND);
      DUE.is("8 clock " + no, x.lets(0, 0, no), Due.BEYOND);
    }
  }

  private static void promise9Letting() {
    StairRow x = Due.row(8, 0);
    x.change(7, 0, 3);
    x.name(2, 0, 1, true);
    x.change(4, 0, 2);
    DUE.is("9 at 12", x.letting(1, 12), 2 + 4 + 16 + 128);
    DUE.is("9 at 23", x.letting(1, 23), 2 + 128);
    DUE.is("9 its own and others", x.letting(7, 6), 16 + 128);
    x.name(0, 0, 3, true);
    DUE.is("9 house 0, too", x.letting(3, 12), 1 + 8 + 16 + 128);
    DUE.is("9 family 8", x.letting(8, 0), Due.BEYOND);
    DUE.is("9 clock 24", x.letting(0, 24), Due.BEYOND);
    for (int no : EXTREMES) {
      DUE.is("9 family " + no, x.letting(no, 0), Due.BEYOND);
      DUE.is("9 clock " + no, x.letting(0, no), Due.BEYOND);
    }
  }

  private static void promise10Joined() {
    StairRow x = Due.row(3, 0);
    for (int room = 0; room < 6; room++) {
      DUE.is("10 nothing joined", x.joined(room), 0);
    }
    x.stair(0, 1);
    x.stair(2, 0);
    DUE.is("10 up", x.joined(0), 1 << 3);
    DUE.is("10 down, both", x.joined(3), 1 | 1 << 4);
    DUE.is("10 up to the left", x.joined(4), 1 << 3);
    x.door(0, true);
    x.door(3, true);
    DUE.is("10 stair and door", x.joined(0), 1 << 2 | 1 << 3);
    DUE.is("10 through the door back", x.joined(2), 1);
    DUE.is("10 upper door", x.joined(5), 1 << 3);
    DUE.is("10 upper door back", x.joined(3), 1 | 1 << 4 | 1 << 5);
    x.stair(2, 1);
    x.door(4, true);
    x.door(5, true);
    DUE.is("10 to no house yet", x.joined(4), 0);
    DUE.is("10 to no house yet", x.joined(5), 1 << 3);
    DUE.is("10 room 6", x.joined(6), Due.BEYOND);
    x.house(0);
    DUE.is("10 then it is there", x.joined(4), 1 << 6 | 1 << 7);
    DUE.is("10 then it is there", x.joined(7), 1 << 4 | 1 << 5);
    for (int no : EXTREMES) {
      DUE.is("10 room " + no, x.joined(no), Due.BEYOND);
    }
    StairRow full = Due.row(8, 0);
    full.door(12, true);
    full.door(13, true);
    DUE.is("10 the last doors", full.joined(14), 1 << 12);
    DUE.is("10 the last doors", full.joined(13), 1 << 15);
    DUE.is("10 room 16", full.joined(16), Due.BEYOND);
  }
}
