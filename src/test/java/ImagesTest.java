/** Promises 43 to 47: images, what is counted, findings. */
public final class ImagesTest {
  private static final Due DUE = new Due();
  private static final int[] EXTREMES = {-1, Integer.MIN_VALUE, Integer.MAX_VALUE};

  public static void main(String[] args) {
    promise43And44WhatIsKept();
    promise44Undo();
    promise45Tear();
    promise46Count();
    promise47Status();
    promise47EachFinding();
    DUE.end();
  }

  private static void promise43And44WhatIsKept() {
    StairRow x = Due.row(2, 5);
    x.stair(0, 1);
    x.name(0, 0, 1, true);
    x.name(0, 1, 6, true);
    x.change(0, 3, 1);
    x.change(0, 4, 2);
    x.change(0, 6, 3);
    x.change(0, 7, 1);
    x.door(4, true);
    x.seed(99);
    x.hold(5, 1);
    DUE.is("43 image", x.image(), 1);
    int[] due = {5, 1, 2, 1, 2, 64, 3, 1};
    x.change(0, 0, 0);
    x.stair(0, -1);
    x.name(0, 0, 1, false);
    x.name(0, 1, 0, true);
    x.change(0, 3, 9);
    x.change(0, 4, 9);
    x.change(0, 6, 9);
    x.change(0, 7, 0);
    x.door(4, false);
    x.door(5, true);
    x.seed(98);
    x.hold(5, 0);
    x.hold(6, 0);
    x.house(3);
    DUE.is("44 undo", x.undo(), 2);
    for (int what = 0; what < 8; what++) {
      DUE.is("44 of(0, " + what + ")", x.of(0, what), due[what]);
    }
    DUE.is("44 no third house", x.of(2, 0), Due.BEYOND);
    DUE.is("44 door 4", x.door(4, true), 1);
    DUE.is("44 doors", x.count(1), 1);
    DUE.is("44 z", x.count(5), 99);
    DUE.is("44 spot 5", x.as(5, 0), 1);
    DUE.is("44 spots", x.count(6), 1);
    DUE.is("44 a new house is as at first", x.house(1), 2);
    DUE.is("44 its kind", x.of(2, 0), 1);
  }

  private static void promise44Undo() {
    StairRow x = new StairRow();
    DUE.is("44 nothing kept", x.undo(), Due.NONE);
    x.image();
    x.house(0);
    DUE.is("44 to no houses", x.undo(), 0);
    DUE.is("44 it stays", x.undo(), 0);
    x.house(0);
    x.image();
    x.house(0);
    x.house(0);
    DUE.is("44 the latest", x.undo(), 1);
    x.house(0);
    DUE.is("44 the latest stays", x.undo(), 1);
    Due.type(x, "inn");
    x.sheet(0, 8, 2);
    x.write(0, 0, 8);
    x.image();
    Due.type(x, ";inn");
    x.write(0, 0, 9);
    x.house(9);
    DUE.is("44 undo", x.undo(), 1);
    DUE.is("44 THE TAPE stays", x.count(4), 7);
    x.load(0);
    DUE.is("44 SHEETS stay", x.of(0, 2), 9);
    DUE.is("44 findings stay", x.status(-1), 2);
    DUE.is("44 the tape's text", x.text(), 2);
    DUE.is("44 undo takes a text back", x.undo(), 1);
    x.name(0, 0, 7, true);
    DUE.is("44 what is done later isn't kept", x.undo(), 1);
    DUE.is("44 as it was", x.of(0, 2), 0);
  }

  private static void promise45Tear() {
    StairRow x = Due.row(1, 0);
    DUE.is("45 nothing", x.tear(), 0);
    x.image();
    x.image();
    DUE.is("45 torn", x.tear(), 1);
    DUE.is("45 nothing more", x.tear(), 0);
    DUE.is("45 no undo", x.undo(), Due.NONE);
    DUE.is("45 the houses stay", x.count(0), 1);
    x.image();
    DUE.is("45 a new image", x.undo(), 1);
    DUE.is("45 torn again", x.tear(), 1);
  }

  private static void promise46Count() {
    StairRow x = Due.row(3, 3);
    x.stair(0, 1);
    x.stair(2, 1);
    x.door(0, true);
    x.door(13, true);
    x.door(5, true);
    x.change(1, 6, 9);
    Due.type(x, "inn; ");
    x.seed(-5);
    x.hold(0, 0);
    x.hold(1, 0);
    int[] due = {3, 3, 2, 13, 5, -5, 2};
    for (int what = 0; what < 7; what++) {
      DUE.is("46 count(" + what + ")", x.count(what), due[what]);
    }
    DUE.is("46 count(7)", x.count(7), Due.BEYOND);
    for (int no : EXTREMES) {
      DUE.is("46 count(" + no + ")", x.count(no), Due.BEYOND);
    }
  }

  private static void promise47Status() {
    StairRow x = new StairRow();
    for (int which = -1; which < 7; which++) {
      DUE.is("47 none yet", x.status(which), 0);
    }
    DUE.is("47 status(7)", x.status(7), Due.BEYOND);
    DUE.is("47 counted from then on", x.status(0), 1);
    DUE.is("47 status(-2)", x.status(-2), Due.BEYOND);
    DUE.is("47 status", x.status(Integer.MIN_VALUE), Due.BEYOND);
    DUE.is("47 status", x.status(Integer.MAX_VALUE), Due.BEYOND);
    DUE.is("47 all", x.status(-1), 4);
    x.text();
    DUE.is("47 a FAULT is no finding", x.status(-1), 4);
  }

  private static void promise47EachFinding() {
    StairRow x = Due.row(8, 0);
    x.house(9);
    x.house(0);
    x.house(0);
    x.hold(0, 0);
    for (int k = 0; k < 3; k++) {
      x.as(0, 1);
    }
    for (int k = 0; k < 4; k++) {
      x.fire();
    }
    x.change(0, 7, 1);
    for (int k = 0; k < 5; k++) {
      x.swaps();
    }
    for (int k = 0; k < 6; k++) {
      x.load(0);
    }
    for (int k = 0; k < 7; k++) {
      x.sheet(0, 8, -1);
    }
    for (int which = 0; which < 7; which++) {
      DUE.is("47 status(" + which + ")", x.status(which), which + 1);
    }
    DUE.is("47 all", x.status(-1), 28);
    x.image();
    x.house(9);
    x.undo();
    DUE.is("47 undo takes none back", x.status(0), 2);
  }
}
