/** The sentences of promises 43 to 47 that name a boundary case: images, counts, findings. */
public final class EdgesOfImagesTest {
  private static final Due DUE = new Due();

  public static void main(String[] args) {
    Sentences.run(EdgesOfImagesTest.class, DUE);
  }

  // ---- 43, 44, 45: image, undo, tear

  @Says("43: All .. is kept: 1. (a row without houses)")
  private static void imageOfNothing() {
    StairRow x = new StairRow();
    DUE.is("image()", x.image(), 1);
    for (int h = 0; h < 8; h++) {
      x.house(6);
    }
    x.door(13, true);
    x.hold(9, 7);
    x.seed(0);
    DUE.is("undo()", x.undo(), 0);
    int[] counts = {0, 0, 0, 0, 0, 1, 0};
    for (int what = 0; what < 7; what++) {
      DUE.is("count(" + what + ")", x.count(what), counts[what]);
    }
    DUE.is("the spot is empty", x.as(9, 0), Due.MISSING);
  }

  @Says("43: All .. is kept: 1. (a full row)")
  private static void imageOfAFullRow() {
    StairRow x = Due.row(8, 0);
    for (int h = 0; h < 8; h++) {
      x.change(h, 0, 6 - h % 7);
      x.stair(h, h == 7 ? 0 : 1);
      Due.leave(x, h, 255 - h);
      Due.foes(x, h, 128 + h);
      x.change(h, 3, 23 - h);
      x.change(h, 4, h);
      x.change(h, 6, 9 - h);
      x.change(h, 7, 7 - h);
      x.hold(h + 2, h);
    }
    for (int d = 0; d < 14; d += 3) {
      x.door(d, true);
    }
    x.seed(Integer.MIN_VALUE);
    x.image();
    for (int h = 0; h < 8; h++) {
      x.change(h, 0, 1);
      x.stair(h, -1);
      Due.leave(x, h, 0);
      Due.foes(x, h, 0);
      x.change(h, 3, 5);
      x.change(h, 4, 5);
      x.change(h, 6, 5);
      x.change(h, 7, 5);
      x.hold(h + 2, -1);
      x.hold(h, 0);
    }
    for (int d = 0; d < 14; d++) {
      x.door(d, d % 3 == 1);
    }
    x.gossip(12);
    DUE.is("undo()", x.undo(), 8);
    for (int h = 0; h < 8; h++) {
      int[] due = {6 - h % 7, h == 7 ? 6 : h + 1, 255 - h, 23 - h, h, 128 + h, 9 - h, 7 - h};
      for (int what = 0; what < 8; what++) {
        DUE.is("of(" + h + ", " + what + ")", x.of(h, what), due[what]);
      }
      DUE.is("spot " + (h + 2), x.as(h + 2, 0), h);
    }
    DUE.is("spot 0", x.as(0, 0), Due.MISSING);
    DUE.is("spot 1", x.as(1, 0), Due.MISSING);
    DUE.is("doors", x.count(1), 5);
    DUE.is("door 12", x.door(12, true), 1);
    DUE.is("door 13", x.door(13, true), 0);
    DUE.is("z", x.count(5), Integer.MIN_VALUE);
  }

  @Says("43: All but THE TAPE and SHEETS is kept")
  private static void imageWithoutTapeAndSheets() {
    StairRow x = Due.row(1, 0);
    x.sheet(0, 8, 1);
    x.write(0, 0, 5);
    Due.type(x, "inn");
    x.image();
    x.write(0, 0, 6);
    x.sheet(1, 8, 3);
    Due.type(x, ";inn");
    x.undo();
    DUE.is("bytes", x.count(4), 7);
    DUE.is("sheet 0", x.load(0), 1);
    DUE.is("its number", x.of(0, 2), 6);
    DUE.is("sheet 1 is there", x.write(1, 2, 0), 1);
    x.sheet(0, 0, 0);
    x.wipe();
    x.undo();
    DUE.is("bytes", x.count(4), 0);
    DUE.is("sheet 0 is missing", x.load(0), Due.MISSING);
  }

  @Says("44: NONE: nothing is kept.")
  private static void undoOfNothing() {
    StairRow x = Due.row(3, 0);
    DUE.is("at first", x.undo(), Due.NONE);
    DUE.is("the houses stay", x.count(0), 3);
    x.image();
    DUE.is("kept", x.undo(), 3);
    x.tear();
    DUE.is("torn", x.undo(), Due.NONE);
    DUE.is("the houses stay", x.count(0), 3);
  }

  @Says("44: It becomes what was kept latest")
  private static void undoToTheLatest() {
    StairRow x = new StairRow();
    for (int n = 1; n <= 8; n++) {
      x.house(0);
      x.image();
    }
    DUE.is("nothing since", x.undo(), 8);
    x = Due.row(8, 0);
    x.image();
    StairRow y = new StairRow();
    y.image();
    DUE.is("each its own", x.undo(), 8);
    DUE.is("each its own", y.undo(), 0);
    x = Due.row(2, 0);
    x.image();
    x.house(0);
    x.image();
    x.house(0);
    DUE.is("the latest", x.undo(), 3);
    DUE.is("not the one ahead of it", x.undo(), 3);
  }

  @Says("44: (which stays)")
  private static void undoAgainAndAgain() {
    StairRow x = Due.row(1, 0);
    x.seed(7);
    x.image();
    for (int k = 0; k < 3; k++) {
      x.house(0);
      x.gossip(2);
      x.name(0, 0, 7, true);
      DUE.is("undo()", x.undo(), 1);
      DUE.is("LEAVE", x.of(0, 2), 0);
      DUE.is("z", x.count(5), 7);
    }
    DUE.is("undo() at once again", x.undo(), 1);
  }

  @Says("45: Nothing is kept: 1 if something was, else 0.")
  private static void tearOfSomethingAndNothing() {
    StairRow x = new StairRow();
    DUE.is("nothing", x.tear(), 0);
    x.undo();
    DUE.is("nothing by undo()", x.tear(), 0);
    x.image();
    x.undo();
    DUE.is("something, behind undo(), too", x.tear(), 1);
    DUE.is("nothing", x.tear(), 0);
    x.image();
    x.image();
    DUE.is("one, of two images", x.tear(), 1);
    DUE.is("nothing", x.tear(), 0);
    DUE.is("undo()", x.undo(), Due.NONE);
    DUE.is("no other finding", x.status(-1), 2);
  }

  // ---- 46: count

  @Says("46: 0 HOUSES .. 6 SPOTS that hold something. BEYOND: another what.")
  private static void countFirstAndLast() {
    StairRow x = new StairRow();
    DUE.range("count", 0, 6, what -> x.count(what));
    x.house(0);
    DUE.is("count(0)", x.count(0), 1);
    x.hold(9, 0);
    DUE.is("count(6)", x.count(6), 1);
  }

  @Says("46: 0 HOUSES, 1 open DOORS, 2 HOUSES with a STAIR, .. (none, all)")
  private static void countNoneAndAll() {
    StairRow x = new StairRow();
    int[] none = {0, 0, 0, 0, 0, 1, 0};
    for (int what = 0; what < 7; what++) {
      DUE.is("none: count(" + what + ")", x.count(what), none[what]);
    }
    for (int h = 0; h < 8; h++) {
      x.house(0);
      x.stair(h, h == 7 ? 0 : 1);
      x.change(h, 6, 9);
    }
    for (int d = 0; d < 14; d++) {
      x.door(d, true);
    }
    for (int spot = 0; spot < 10; spot++) {
      x.hold(spot, 7);
    }
    for (int k = 0; k < 30; k++) {
      x.feed(0, 4);
    }
    x.seed(Integer.MAX_VALUE);
    int[] all = {8, 14, 8, 72, 120, Integer.MAX_VALUE, 10};
    for (int what = 0; what < 7; what++) {
      DUE.is("all: count(" + what + ")", x.count(what), all[what]);
    }
  }

  @Says("46: 2 HOUSES with a STAIR (also to none yet)")
  private static void countStairsToNoneYet() {
    StairRow x = Due.row(1, 0);
    x.stair(0, 1);
    DUE.is("to none yet", x.count(2), 1);
    x.house(0);
    DUE.is("to one", x.count(2), 1);
    x.stair(1, 0);
    DUE.is("both", x.count(2), 2);
    x.stair(0, -1);
    DUE.is("to house 0 alone", x.count(2), 1);
    x.stair(1, -1);
    DUE.is("none", x.count(2), 0);
  }

  @Says("46: 3 SLEEPERS of all (whatever their KIND; not of houses that are gone)")
  private static void countSleepers() {
    StairRow x = Due.row(1, 3);
    DUE.is("an INN's", x.count(3), 2);
    x.change(0, 6, 0);
    DUE.is("none", x.count(3), 0);
    x.image();
    x.house(5);
    DUE.is("a new one's", x.count(3), 2);
    x.undo();
    DUE.is("it is gone", x.count(3), 0);
  }

  // ---- 47: status

  @Says("47: which -1: all, 0 to 6: BEYOND to SIZE.")
  private static void statusFirstAndLast() {
    StairRow x = new StairRow();
    x.door(14, true);
    x.sheet(0, 8, -1);
    x.sheet(0, 8, -1);
    int[] due = {1, 0, 0, 0, 0, 0, 2};
    for (int which = 0; which < 7; which++) {
      DUE.is("status(" + which + ")", x.status(which), due[which]);
    }
    DUE.is("status(-1)", x.status(-1), 3);
  }

  @Says("47: BEYOND (counted from then on): another one.")
  private static void statusOfAnotherCounts() {
    StairRow x = new StairRow();
    DUE.range("status", -1, 6, which -> x.status(which));
    DUE.is("each other one was counted", x.status(0), 14);
    DUE.is("status(7)", x.status(7), Due.BEYOND);
    DUE.is("from then on", x.status(0), 15);
    DUE.is("status(-2)", x.status(-2), Due.BEYOND);
    DUE.is("in all, too", x.status(-1), 16);
    DUE.is("asking counts nothing", x.status(-1), 16);
  }

  @Says("47: How many acts answered a finding ever (undo() takes none back)")
  private static void statusIsNotTakenBack() {
    StairRow x = new StairRow();
    x.image();
    x.house(7);
    x.load(0);
    x.undo();
    DUE.is("BEYOND", x.status(0), 1);
    DUE.is("MISSING", x.status(5), 1);
    x.tear();
    x.undo();
    DUE.is("NONE", x.status(3), 1);
    DUE.is("all", x.status(-1), 3);
  }

  @Says("47: How many acts answered a finding (no answer below 0 that isn't one)")
  private static void statusOfNoFindings() {
    StairRow x = Due.row(1, 0);
    x.of(0, 1);
    x.stair(0, 1);
    x.stair(0, -1);
    x.text();
    x.seed(-1000001);
    x.count(5);
    x.seed(1);
    DUE.is("all", x.status(-1), 0);
  }

  @Says("47: ever (up to the 512th call)")
  private static void statusOfManyCalls() {
    StairRow x = new StairRow();
    for (int k = 0; k < 510; k++) {
      x.undo();
    }
    DUE.is("NONE", x.status(3), 510);
    DUE.is("all", x.status(-1), 510);
  }
}
