/** Asks calls for the answers that are due, prints those that differ, and ends with 1 then. */
public final class Due {
  public static final int BEYOND = -1000001;
  public static final int FULL = -1000002;
  public static final int KIND = -1000003;
  public static final int NONE = -1000004;
  public static final int STATE = -1000005;
  public static final int MISSING = -1000006;
  public static final int SIZE = -1000007;

  private int asked = 0;
  private int wrong = 0;

  public void is(String call, long got, long want) {
    asked++;
    if (got != want) {
      wrong++;
      System.out.println(call + " answered " + got + ", due is " + want);
    }
  }

  public void end() {
    System.out.println(asked + " asked, " + wrong + " wrong");
    if (wrong != 0 || asked == 0) {
      System.exit(1);
    }
  }

  /** A row of so many houses of a kind. */
  public static StairRow row(int many, int kind) {
    StairRow x = new StairRow();
    for (int h = 0; h < many; h++) {
      x.house(kind);
    }
    return x;
  }

  /** A row of so many houses, HOUSE each, that let everybody in at every clock. */
  public static StairRow openRow(int many) {
    StairRow x = row(many, 0);
    for (int h = 0; h < many; h++) {
      x.change(h, 3, 0);
      x.change(h, 4, 23);
      leave(x, h, 255);
    }
    return x;
  }

  public static void leave(StairRow x, int house, int set) {
    for (int f = 0; f < 8; f++) {
      x.name(house, 0, f, (set >> f & 1) != 0);
    }
  }

  public static void foes(StairRow x, int house, int set) {
    for (int f = 0; f < 8; f++) {
      x.name(house, 1, f, (set >> f & 1) != 0);
    }
  }

  public static void type(StairRow x, String text) {
    for (int i = 0; i < text.length(); i++) {
      x.feed(text.charAt(i), 1);
    }
  }

  /** What text() answers on a text alone on THE TAPE. */
  public static int read(StairRow x, String text) {
    x.wipe();
    type(x, text);
    return x.text();
  }
}
