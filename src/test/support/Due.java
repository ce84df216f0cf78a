/** Asks calls for the answers that are due, prints those that differ, and ends with 1 then. */
public final class Due {
  public static final int BEYOND = -1000001;
  public static final int FULL = -1000002;
  public static final int KIND = -1000003;
  public static final int NONE = -1000004;
  public static final int STATE = -1000005;
  public static final int MISSING = -1000006;
  public static final int SIZE = -1000007;

  /** A call with one of its arguments left open. */
  public interface Call {
    int with(int argument);
  }

  private int asked = 0;
  private int wrong = 0;
  private String test = "";

  /** What is asked from now on belongs to a test. */
  public void begin(String name) {
    test = name + ": ";
  }

  public int asked() {
    return asked;
  }

  public void is(String call, long got, long want) {
    asked++;
    if (got != want) {
      wrong++;
      System.out.println(test + call + " answered " + got + ", due is " + want);
    }
  }

  /** An argument from low to high is none that is BEYOND, each other one is. */
  public void range(String call, int low, int high, Call asking) {
    for (int v = low; v <= high; v++) {
      is(call + " with " + v + " is BEYOND", asking.with(v) == BEYOND ? 1 : 0, 0);
    }
    int[] outside = {low - 1, low - 2, low - 8, high + 1, high + 2, high + 8, low + 64, low + 256,
      low + 65536, Integer.MIN_VALUE, Integer.MIN_VALUE + 1, Integer.MAX_VALUE - 1,
      Integer.MAX_VALUE, BEYOND};
    for (int v : outside) {
      is(call + " with " + v, asking.with(v), BEYOND);
    }
  }

  public void end() {
    System.out.println(asked + " asked, " + wrong + " wrong");
    if (wrong != 0 || asked == 0) {
      System.exit(1);
    }
  }

  /** A row of so many houses of a kind. */
  public static StairRow row(int many, int kind) {
    StairRow x = new StairRow();
    for (int h = 0; h < many; h++) {
      x.house(kind);
    }
    return x;
  }

  /** A row of so many houses, HOUSE each, that let everybody in at every clock. */
  public static StairRow openRow(int many) {
    StairRow x = row(many, 0);
    for (int h = 0; h < many; h++) {
      x.change(h, 3, 0);
      x.change(h, 4, 23);
      leave(x, h, 255);
    }
    return x;
  }

  public static void leave(StairRow x, int house, int set) {
    for (int f = 0; f < 8; f++) {
      x.name(house, 0, f, (set >> f & 1) != 0);
    }
  }

  public static void foes(StairRow x, int house, int set) {
    for (int f = 0; f < 8; f++) {
      x.name(house, 1, f, (set >> f & 1) != 0);
    }
  }

  public static void type(StairRow x, String text) {
    for (int i = 0; i < text.length(); i++) {
      x.feed(text.charAt(i), 1);
    }
  }

  /** What text() answers on a text alone on THE TAPE. */
  public static int read(StairRow x, String text) {
    x.wipe();
    type(x, text);
    return x.text();
  }
}
